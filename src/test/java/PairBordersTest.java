/** Promises 13 to 16 and 21 at their borders: nothing in both, all six, ties, sets from none to all. */
public final class PairBordersTest {
    private static final Check check = new Check("PairBordersTest");
    private static final int NONE = StereoWar.NONE, UNKNOWN = StereoWar.UNKNOWN, STATE = StereoWar.STATE;
    private static final int LEAST = Integer.MIN_VALUE, GREATEST = Integer.MAX_VALUE;

    public static void main(String[] args) {
        oneInBoth();
        twoInBoth();
        allInBoth();
        notInBoth();
        alsoOne();
        shiftFromLeastToGreatest();
        nearFromNoneToAll();
        nearAllAlike();
        nearBeyond();
        matchOfNone();
        matchOfOneAndTwo();
        matchOfAll();
        setsBeyond();
        picturesNotOfTheSet();
        leftAloneBehindAllOthers();
        secondsDecideWhereFirstsDoNot();
        eyesOfFew();
        eyesOfAll();
        check.end();
    }

    /** Two pictures that show nothing yet. */
    private static StereoWar two() {
        return blank(2);
    }

    private static StereoWar blank(int pictures) {
        StereoWar war = new StereoWar();
        for (int picture = 0; picture < pictures; picture++) {
            war.take(picture, 0, 0);
        }
        return war;
    }

    /** A thing stands at those columns in the pictures 0 and 1. */
    private static void in(StereoWar war, int thing, int left, int right) {
        war.retouch(0, thing, left);
        war.retouch(1, thing, right);
    }

    private static void kinds(String what, StereoWar war, int there, int back) {
        check.due(what, war.kind(0, 1), there);
        check.due(what + ", the other way round", war.kind(1, 0), back);
    }

    // "FLAT (1), if no SHIFT is other than 0", "GOOD (0), if none is below 0", "TURNED (2), if none is above 0"
    private static void oneInBoth() {
        for (int thing = 0; thing < 6; thing++) {
            for (int column : new int[] {0, 1, 30, 59, 60}) {
                StereoWar war = two();
                in(war, thing, column, column);
                kinds("alike", war, 1, 1);
                if (column < 60) {
                    in(war, thing, column + 1, column);
                    kinds("1 above", war, 0, 2);
                }
                if (column > 0) {
                    in(war, thing, 0, column);
                    kinds("below", war, 2, 0);
                    in(war, thing, column, 0);
                    kinds("above", war, 0, 2);
                }
            }
        }
    }

    private static void twoInBoth() {
        for (int one = 0; one < 6; one++) {
            for (int other = 0; other < 6; other++) {
                if (one == other) {
                    continue;
                }
                StereoWar war = two();
                in(war, one, 0, 0);
                in(war, other, 60, 60);
                kinds("0 and 0", war, 1, 1);
                in(war, one, 1, 0);
                kinds("1 and 0", war, 0, 2);
                in(war, other, 60, 59);
                kinds("1 and 1", war, 0, 2);
                in(war, other, 59, 60);
                kinds("1 and -1", war, 3, 3);
                in(war, one, 60, 0);
                kinds("60 and -1", war, 3, 3);
                in(war, one, 0, 60);
                kinds("-60 and -1", war, 2, 0);
                in(war, one, 0, 0);
                kinds("0 and -1", war, 2, 0);
            }
        }
    }

    private static void allInBoth() {
        StereoWar war = two();
        for (int thing = 0; thing < 6; thing++) {
            in(war, thing, 10 * thing, 10 * thing);
        }
        kinds("all alike", war, 1, 1);
        for (int thing = 0; thing < 6; thing++) {
            in(war, thing, 10 * thing + 1, 10 * thing);
            kinds("so many above: " + (thing + 1), war, 0, 2);
        }
        for (int thing = 0; thing < 5; thing++) {
            in(war, thing, 10 * thing, 10 * thing + 1);
            kinds("so many below: " + (thing + 1), war, 3, 3);
        }
        in(war, 5, 0, 1);
        kinds("all below", war, 2, 0);
    }

    // "(also if nothing is in both)", "a THING that both show"
    private static void notInBoth() {
        StereoWar war = two();
        kinds("nothing in either", war, 1, 1);
        for (int thing = 0; thing < 6; thing++) {
            in(war, thing, 60, NONE);
            kinds("in the left alone", war, 1, 1);
            in(war, thing, NONE, 60);
            kinds("in the right alone", war, 1, 1);
            in(war, thing, thing % 2 == 0 ? 0 : NONE, thing % 2 == 0 ? NONE : 0);
        }
        kinds("three in each, none in both", war, 1, 1);
        in(war, 0, 7, 7);
        kinds("one in both, alike", war, 1, 1);
        in(war, 5, 1, 0);
        kinds("two in both", war, 0, 2);
    }

    // "UNKNOWN: both, also one"
    private static void alsoOne() {
        StereoWar war = Scenes.FULL.make().get();
        for (int picture = 0; picture < 10; picture++) {
            check.due("kind of one", war.kind(picture, picture), UNKNOWN);
            check.due("near of one", war.near(picture, picture, -1), UNKNOWN);
            check.due("near of one, none", war.near(picture, picture, -2), UNKNOWN);
            check.due("shift of one", war.shift(picture, picture, 0), UNKNOWN);
            check.due("ahead of one", war.ahead(picture, picture), UNKNOWN);
        }
        war.retouch(4, 2, NONE);
        check.due("one, that does not show it", war.shift(4, 4, 2), UNKNOWN);
    }

    // "SHIFT, and 100", "STATE: it is not in both"
    private static void shiftFromLeastToGreatest() {
        for (int thing = 0; thing < 6; thing++) {
            StereoWar war = two();
            check.due("in none", war.shift(0, 1, thing), STATE);
            in(war, thing, 60, 0);
            check.due("60", war.shift(0, 1, thing), 160);
            check.due("-60", war.shift(1, 0, thing), 40);
            in(war, thing, 31, 30);
            check.due("1", war.shift(0, 1, thing), 101);
            check.due("-1", war.shift(1, 0, thing), 99);
            in(war, thing, 0, 0);
            check.due("0 at column 0", war.shift(0, 1, thing), 100);
            in(war, thing, 60, 60);
            check.due("0 at column 60", war.shift(0, 1, thing), 100);
            in(war, thing, NONE, 0);
            check.due("in the right alone", war.shift(0, 1, thing), STATE);
            check.due("in the left alone", war.shift(1, 0, thing), STATE);
            check.due("another one, in none", war.shift(0, 1, 5 - thing), STATE);
        }
    }

    // "how many (i = -1)", "the i-th (0 the greatest ..)", "NONE"
    private static void nearFromNoneToAll() {
        StereoWar war = two();
        for (int many = 0; many <= 6; many++) {
            check.due("how many of " + many, war.near(0, 1, -1), many);
            check.due("how many of " + many + ", the other way round", war.near(1, 0, -1), many);
            for (int i = 0; i < many; i++) {
                check.due("the " + i + "-th of " + many, war.near(0, 1, i), many - 1 - i);
                check.due("the " + i + "-th of " + many + ", the other way round", war.near(1, 0, i), i);
            }
            check.due("behind the last of " + many, war.near(0, 1, many), NONE);
            if (many < 6) {
                in(war, many, 12 * many, 30);
            }
        }
    }

    // "of several the least THING first"
    private static void nearAllAlike() {
        StereoWar war = two();
        for (int thing = 5; thing >= 0; thing--) {
            in(war, thing, 10 * thing + 1, 10 * thing);
        }
        for (int i = 0; i < 6; i++) {
            check.due("the " + i + "-th of all alike", war.near(0, 1, i), i);
            check.due("the " + i + "-th of all alike, the other way round", war.near(1, 0, i), i);
        }
        in(war, 5, 60, 0);
        in(war, 2, 0, 60);
        int[] due = {5, 0, 1, 3, 4, 2};
        for (int i = 0; i < 6; i++) {
            check.due("the " + i + "-th of four alike", war.near(0, 1, i), due[i]);
            check.due("six behind it", war.near(0, 1, i + 6), NONE);
        }
        in(war, 1, NONE, 1);
        check.due("one is in the right alone", war.near(0, 1, 2), 3);
    }

    // "NONE (i below -1, too)"
    private static void nearBeyond() {
        int[] beyond = {-2, -3, LEAST, LEAST + 1, 6, 7, GREATEST};
        StereoWar all = Scenes.FULL.make().get();
        StereoWar nothing = two();
        for (int i : beyond) {
            check.due("all: near(" + i + ")", all.near(0, 1, i), NONE);
            check.due("nothing: near(" + i + ")", nothing.near(0, 1, i), NONE);
        }
        check.due("nothing: near(0)", nothing.near(0, 1, 0), NONE);
    }

    private static void matchOfNone() {
        for (StereoWar war : new StereoWar[] {new StereoWar(), blank(10), Scenes.FULL.make().get()}) {
            check.due("how many of no set", war.match(0, -1), 0);
            for (int picture = 0; picture < 10; picture++) {
                check.due("with whom of no set", war.match(0, picture), UNKNOWN);
            }
        }
    }

    private static void matchOfOneAndTwo() {
        StereoWar war = blank(10);
        war.retouch(0, 0, 1);
        war.retouch(9, 0, 0);
        for (int picture = 0; picture < 10; picture++) {
            check.due("how many of one", war.match(1 << picture, -1), 0);
            check.due("with whom of one", war.match(1 << picture, picture), NONE);
        }
        check.due("how many of the first and the last", war.match(513, -1), 1);
        check.due("the first", war.match(513, 0), 9);
        check.due("the last", war.match(513, 9), 0);
        check.due("all by the two alone", war.match(1023, -1), 1);
        check.due("all: the first", war.match(1023, 0), 9);
        check.due("all: the second", war.match(1023, 1), NONE);
        war.retouch(0, 0, 0);
        check.due("flat is not good", war.match(513, -1), 0);
        war.retouch(9, 0, 1);
        check.due("turned is good the other way round", war.match(513, -1), 1);
        war.retouch(0, 1, 1);
        war.retouch(9, 1, 0);
        check.due("confused is not good", war.match(513, -1), 0);
    }

    private static void matchOfAll() {
        StereoWar war = blank(10);
        check.due("all flat", war.match(1023, -1), 0);
        for (int picture = 0; picture < 10; picture++) {
            check.due("all flat, with whom", war.match(1023, picture), NONE);
            war.retouch(picture, 0, picture);
        }
        check.due("all turned", war.match(1023, -1), 5);
        for (int picture = 0; picture < 10; picture++) {
            check.due("all turned, with whom", war.match(1023, picture), picture ^ 1);
            check.due("all but one", war.match(1023 - (1 << picture), -1), 4);
            check.due("that one is not of it", war.match(1023 - (1 << picture), picture), UNKNOWN);
        }
        check.due("all but the first: the last is left alone", war.match(1022, 9), NONE);
        check.due("all but the last: the last but one is left alone", war.match(511, 8), NONE);
    }

    // "a PICTURE of the set that there is not (a set below 0 or above 1023, too)"
    private static void setsBeyond() {
        StereoWar war = blank(10);
        for (int set : new int[] {-1, -2, -1024, LEAST, LEAST + 1, LEAST + 1023, 1024, 1025, 2047, 65536, GREATEST}) {
            check.due("match(" + set + ", -1)", war.match(set, -1), UNKNOWN);
            check.due("match(" + set + ", 0)", war.match(set, 0), UNKNOWN);
        }
        check.due("all", war.match(1023, -1), 0);
        for (int picture = 0; picture < 10; picture++) {
            war.burn(picture);
            check.due("a burnt one alone", war.match(1 << picture, -1), UNKNOWN);
            check.due("all with a burnt one", war.match(1023, -1), UNKNOWN);
            check.due("all that are left", war.match(1023 - (1 << picture), -1), 0);
            war.take(picture, 0, 0);
        }
    }

    // "the PICTURE, if it is not of it"
    private static void picturesNotOfTheSet() {
        StereoWar war = blank(10);
        for (int picture : new int[] {-2, -3, 10, 11, 31, 32, 33, 42, 64, LEAST, LEAST + 1, GREATEST}) {
            check.due("match(1023, " + picture + ")", war.match(1023, picture), UNKNOWN);
            check.due("match(1, " + picture + ")", war.match(1, picture), UNKNOWN);
        }
        for (int picture = 0; picture < 10; picture++) {
            check.due("a set without it", war.match(1023 - (1 << picture), picture), UNKNOWN);
            check.due("a set of it", war.match(1 << picture, picture), NONE);
        }
    }

    // "left alone, NONE, behind all others": the first is with the last rather than alone
    private static void leftAloneBehindAllOthers() {
        StereoWar war = blank(10);
        for (int picture = 0; picture < 9; picture++) {
            war.retouch(picture, 0, 10);
        }
        war.retouch(9, 0, 0);
        check.due("all are good with the last alone", war.match(1023, -1), 1);
        check.due("the first has it", war.match(1023, 0), 9);
        check.due("the last has the first", war.match(1023, 9), 0);
        for (int picture = 1; picture < 9; picture++) {
            check.due("left alone", war.match(1023, picture), NONE);
        }
        check.due("without the first the second has it", war.match(1022, 1), 9);
    }

    // "by with whom the least PICTURE is, then the next, and so on": 0 with 1, 2 is free to choose 3, 4 or 5
    private static void secondsDecideWhereFirstsDoNot() {
        StereoWar war = blank(6);
        in(war, 0, 1, 0);
        war.retouch(2, 1, 20);
        war.retouch(3, 1, 20);
        war.retouch(4, 1, 10);
        war.retouch(5, 1, 10);
        int[] due = {1, 0, 4, 5, 2, 3};
        check.due("three pairs", war.match(63, -1), 3);
        for (int picture = 0; picture < 6; picture++) {
            check.due("with whom is " + picture, war.match(63, picture), due[picture]);
        }
    }

    // "rows of three PICTURES (no two are one)"
    private static void eyesOfFew() {
        check.due("none", new StereoWar().eyes(), 0);
        for (int many = 1; many <= 10; many++) {
            check.due("so many that are flat: " + many, blank(many).eyes(), 0);
        }
        StereoWar war = two();
        in(war, 0, 1, 0);
        check.due("two that are good", war.eyes(), 0);
        war.take(9, 0, 0);
        check.due("and one that is flat", war.eyes(), 0);
        war.retouch(9, 0, 2);
        check.due("three: 9, 0, 1", war.eyes(), 1);
        war.retouch(9, 0, 0);
        check.due("two of them are flat", war.eyes(), 0);
        war.burn(9);
        war.take(5, 0, 0);
        war.retouch(5, 1, 5);
        war.retouch(1, 1, 6);
        check.due("the first and the third are flat: 0, 1, 5", war.eyes(), 1);
        war.burn(1);
        check.due("the second is burnt", war.eyes(), 0);
    }

    private static void eyesOfAll() {
        for (int up = 0; up < 2; up++) {
            StereoWar war = new StereoWar();
            for (int picture = 0; picture < 10; picture++) {
                war.take(picture, 0, 0);
                war.retouch(picture, 5, up == 1 ? picture : 60 - picture);
                int rows = (picture + 1) * picture * (picture - 1) / 6;
                check.due("so many in a row: " + (picture + 1), war.eyes(), rows);
            }
        }
    }
}
