/** Promises 1 to 7 at their borders: none, all, the least, the greatest, and what stays as it is. */
public final class ThingBordersTest {
    private static final Check check = new Check("ThingBordersTest");
    private static final int NONE = StereoWar.NONE, UNKNOWN = StereoWar.UNKNOWN, OUTSIDE = StereoWar.OUTSIDE;

    public static void main(String[] args) {
        nothingAtFirst();
        noQuestionFindsAnything();
        oneToSixThings();
        leastAndGreatestThing();
        leaveAll();
        leftThingsAreNotTaken();
        picturesStayWhenThingsLeave();
        focusFromLeastToGreatest();
        takeOnesOfNone();
        takeAllByAll();
        takeFromTheCorners();
        takeAnewPutsInAll();
        takenOnesStay();
        for (int focus = 1; focus <= 40; focus++) {
            edgesOfThePlate(focus);
        }
        cutTowardsZero();
        farthestThings();
        retouchAll();
        retouchOneAlone();
        burnAll();
        burntOnesComeBackBlank();
        check.end();
    }

    // "THINGS .. (none at first)", "PICTURES .. (none at first)", "20 at first", "No THINGS, no PICTURES"
    private static void nothingAtFirst() {
        StereoWar war = new StereoWar();
        for (int what = 0; what < 3; what++) {
            check.due("new: told(" + what + ")", war.told(what), 0);
        }
        check.due("new: focus", war.told(3), 20);
        for (int thing = 0; thing < 6; thing++) {
            for (int part = 0; part < 3; part++) {
                check.due("new: part " + part + " of thing " + thing, war.told(10 * (1 + thing) + part), OUTSIDE);
            }
            check.due("new: leave(" + thing + ")", war.leave(thing), UNKNOWN);
        }
        for (int picture = 0; picture < 10; picture++) {
            for (int thing = 0; thing < 6; thing++) {
                check.due("new: " + thing + " in " + picture, war.told(100 * (1 + picture) + thing), OUTSIDE);
            }
            check.due("new: burn(" + picture + ")", war.burn(picture), UNKNOWN);
        }
    }

    private static void noQuestionFindsAnything() {
        StereoWar war = new StereoWar();
        check.due("new: fault", war.fault(), NONE);
        check.due("new: wipe", war.wipe(), 0);
        check.due("new: the pair", war.judge(0), NONE);
        check.due("new: why", war.judge(1), NONE);
        check.due("new: pairs", war.judge(2), 0);
        check.due("new: pages", war.judge(3), 1);
        check.due("new: match", war.match(0, -1), 0);
        check.due("new: eyes", war.eyes(), 0);
        check.due("new: best", war.best(0, 0), 0);
        check.due("new: how many", war.best(0, 1), 0);
        for (int kind = 0; kind < 4; kind++) {
            check.due("new: a year of kind " + kind, war.year(1, 99, kind), 0);
            check.due("new: late of kind " + kind, war.late(0, 0, 1, 8, 5, kind, 0), kind == 1 ? 1 : 0);
        }
        for (int number = 0; number < 10; number++) {
            check.due("new: kind", war.kind(number, 9 - number), UNKNOWN);
            check.due("new: near", war.near(number, 9 - number, -1), UNKNOWN);
            check.due("new: shift", war.shift(number, 9 - number, 0), UNKNOWN);
            check.due("new: match of " + number, war.match(1 << number, number), UNKNOWN);
            check.due("new: stood", war.stood(number, -1), UNKNOWN);
            check.due("new: forged", war.forged(number, 0), UNKNOWN);
            check.due("new: ahead", war.ahead(number, 9 - number), UNKNOWN);
            check.due("new: missing", war.missing(number, 0, 0), UNKNOWN);
            check.due("new: past", war.past(number, 0, 0), UNKNOWN);
            check.due("new: retouch", war.retouch(number, 0, 0), UNKNOWN);
        }
        check.due("new: restore(0)", war.restore(0), StereoWar.STATE);
        check.due("new: restore(1)", war.restore(1), StereoWar.STATE);
    }

    // "A THING is there (or otherwise): how many are"
    private static void oneToSixThings() {
        StereoWar war = new StereoWar();
        for (int thing = 5; thing >= 0; thing--) {
            check.due("thing(" + thing + ")", war.thing(thing, thing, 0, 1), 6 - thing);
            check.due("things as bits", war.told(1), 64 - (1 << thing));
        }
        for (int thing = 0; thing < 6; thing++) {
            check.due("thing(" + thing + ") otherwise", war.thing(thing, 90 + thing, thing - 3, 20 - thing), 6);
        }
        for (int thing = 0; thing < 6; thing++) {
            check.due("place of " + thing, war.told(10 + 10 * thing), 90 + thing);
            check.due("pace of " + thing + " and 9", war.told(11 + 10 * thing), 6 + thing);
            check.due("deep of " + thing, war.told(12 + 10 * thing), 20 - thing);
        }
    }

    // "PLACE (0 to 99 ..), PACE (-9 to 9 ..), DEEP (1 to 20)": each at its least and its greatest with each other
    private static void leastAndGreatestThing() {
        StereoWar war = new StereoWar();
        for (int thing = 0; thing < 6; thing++) {
            for (int way = 0; way < 8; way++) {
                int place = (way & 1) == 0 ? 0 : 99;
                int pace = (way & 2) == 0 ? -9 : 9;
                int deep = (way & 4) == 0 ? 1 : 20;
                check.due("thing " + thing + " in way " + way, war.thing(thing, place, pace, deep), thing + 1);
                check.due("its place", war.told(10 + 10 * thing), place);
                check.due("its pace and 9", war.told(11 + 10 * thing), pace + 9);
                check.due("its deep", war.told(12 + 10 * thing), deep);
            }
        }
    }

    // "A THING is no more .. how many are. UNKNOWN: there was none"
    private static void leaveAll() {
        StereoWar war = Scenes.FULL.make().get();
        for (int thing = 0; thing < 6; thing++) {
            check.due("leave(" + thing + ")", war.leave(thing), 5 - thing);
            check.due("leave(" + thing + ") again", war.leave(thing), UNKNOWN);
            check.due("its place", war.told(10 + 10 * thing), OUTSIDE);
            check.due("its pace", war.told(11 + 10 * thing), OUTSIDE);
            check.due("its deep", war.told(12 + 10 * thing), OUTSIDE);
        }
        check.due("none is", war.told(1), 0);
        check.due("the first one again", war.thing(0, 0, 0, 1), 1);
    }

    private static void leftThingsAreNotTaken() {
        StereoWar war = new StereoWar();
        war.thing(0, 50, 0, 20);
        war.thing(5, 50, 0, 20);
        war.take(0, 50, 0);
        war.leave(0);
        check.due("taken without it", war.take(0, 50, 0), 32);
        check.due("it is not shown", war.told(100), NONE);
        war.leave(5);
        check.due("taken without any", war.take(0, 50, 0), 0);
    }

    // "(PICTURES stay)"
    private static void picturesStayWhenThingsLeave() {
        StereoWar war = new StereoWar();
        for (int thing = 0; thing < 6; thing++) {
            war.thing(thing, 45 + thing, 0, 20);
        }
        for (int picture = 0; picture < 10; picture++) {
            war.take(picture, 45 + picture, 99);
        }
        for (int thing = 0; thing < 6; thing++) {
            war.leave(thing);
        }
        check.due("pictures", war.told(2), 1023);
        for (int picture = 0; picture < 10; picture++) {
            for (int thing = 0; thing < 6; thing++) {
                check.due(thing + " in " + picture, war.told(100 * (1 + picture) + thing), 30 + thing - picture);
            }
        }
    }

    // "FOCUS (1 to 40; 20 at first)", "FOCUS: which it was"
    private static void focusFromLeastToGreatest() {
        StereoWar war = new StereoWar();
        int before = 20;
        for (int focus = 1; focus <= 40; focus++) {
            check.due("focus(" + focus + ")", war.focus(focus), before);
            check.due("told(3)", war.told(3), focus);
            before = focus;
        }
        check.due("focus(41)", war.focus(41), OUTSIDE);
        check.due("focus(0)", war.focus(0), OUTSIDE);
        check.due("the greatest stays", war.focus(40), 40);
        check.due("the same again", war.focus(1), 40);
        check.due("focus(-1)", war.focus(-1), OUTSIDE);
        check.due("the least stays", war.focus(1), 1);
    }

    // "THINGS that it shows, as bits": nothing, where none is there
    private static void takeOnesOfNone() {
        StereoWar war = new StereoWar();
        for (int picture = 0; picture < 10; picture++) {
            check.due("take(" + picture + ")", war.take(picture, 99 - picture, picture), 0);
            check.due("pictures", war.told(2), (2 << picture) - 1);
            for (int thing = 0; thing < 6; thing++) {
                check.due("no column", war.told(100 * (1 + picture) + thing), NONE);
            }
        }
        check.due("taken anew", war.take(9, 0, 0), 0);
        check.due("all pictures", war.told(2), 1023);
    }

    // "puts in all THINGS that there are": each of all 64 sets
    private static void takeAllByAll() {
        for (int bits = 0; bits < 64; bits++) {
            StereoWar war = new StereoWar();
            for (int thing = 0; thing < 6; thing++) {
                if ((bits >> thing & 1) == 1) {
                    war.thing(thing, 20 + 12 * thing, 0, 20);
                }
            }
            check.due("all of " + bits, war.take(9, 50, 99), bits);
            check.due("those that are not too far left", war.take(0, 81, 0), bits & 56);
            check.due("those that are not too far right", war.take(0, 29, 0), bits & 15);
        }
    }

    // "A STAND c (0 to 99) in minute m (0 to 99)"
    private static void takeFromTheCorners() {
        StereoWar war = new StereoWar();
        war.thing(0, 0, 0, 20);
        war.thing(1, 99, 0, 20);
        war.thing(2, 99, -1, 20);
        war.thing(3, 0, 1, 20);
        check.due("stand 0, minute 0", war.take(0, 0, 0), 9);
        check.due("stand 99, minute 0", war.take(1, 99, 0), 6);
        check.due("stand 0, minute 99", war.take(2, 0, 99), 5);
        check.due("stand 99, minute 99", war.take(3, 99, 99), 10);
        check.due("place 0 from 0", war.told(100), 30);
        check.due("place 99 from 99", war.told(201), 30);
        check.due("99 less 99 from 0", war.told(302), 30);
        check.due("0 and 99 from 99", war.told(403), 30);
        check.due("stand 30, minute 30", war.take(4, 30, 30), 1 | 8);
        check.due("stand 69, minute 0", war.take(5, 69, 0), 6);
        check.due("at the last column", war.told(601), 60);
        check.due("stand 68, minute 0", war.take(5, 68, 0), 0);
    }

    // "A PICTURE is TAKEN (or anew)": nothing of the old one is left
    private static void takeAnewPutsInAll() {
        StereoWar war = new StereoWar();
        war.thing(0, 50, 0, 20);
        war.take(7, 50, 0);
        for (int thing = 0; thing < 6; thing++) {
            war.retouch(7, thing, 60);
        }
        check.due("anew", war.take(7, 80, 0), 1);
        check.due("the one that there is", war.told(800), 0);
        for (int thing = 1; thing < 6; thing++) {
            check.due("one that there is not", war.told(800 + thing), NONE);
        }
        check.due("anew, out of sight", war.take(7, 81, 0), 0);
        check.due("not shown", war.told(800), NONE);
        check.due("still one picture", war.told(2), 128);
    }

    // "as they are then; they stay so"
    private static void takenOnesStay() {
        StereoWar war = new StereoWar();
        war.thing(0, 50, 0, 20);
        war.take(0, 40, 0);
        war.take(9, 60, 0);
        war.thing(0, 99, 9, 1);
        check.due("put otherwise", war.told(100), 40);
        war.focus(40);
        check.due("another focus", war.told(100), 40);
        war.take(1, 50, 50);
        check.due("another one taken", war.told(100), 40);
        war.retouch(1, 0, 7);
        check.due("another one retouched", war.told(100), 40);
        war.burn(1);
        check.due("another one burnt", war.told(100), 40);
        war.leave(0);
        check.due("no more", war.told(100), 40);
        war.thing(0, 1, 1, 1);
        check.due("there again", war.told(100), 40);
        check.due("the last picture too", war.told(1000), 20);
    }

    // "it shows it, if that is 0 to 60", for each FOCUS and each DEEP, on both sides
    private static void edgesOfThePlate(int focus) {
        StereoWar war = new StereoWar();
        war.focus(focus);
        for (int deep = 1; deep <= 20; deep++) {
            int farthest = (31 * deep - 1) / focus;
            int shift = focus * farthest / deep;
            String edge = "focus " + focus + ", deep " + deep;
            check.due(edge + ": the last that is shown", rightBy(war, deep, farthest), 30 + shift);
            check.due(edge + ": one farther", rightBy(war, deep, farthest + 1), NONE);
            check.due(edge + ": the first that is shown", leftBy(war, deep, farthest), 30 - shift);
            check.due(edge + ": one ahead", leftBy(war, deep, farthest + 1), NONE);
        }
    }

    /** The column of a thing so far to the right of the camera. */
    private static int rightBy(StereoWar war, int deep, int far) {
        war.thing(0, far % 9, 9, deep);
        war.take(0, 0, far / 9);
        return war.told(100);
    }

    /** The column of a thing so far to the left of the camera. */
    private static int leftBy(StereoWar war, int deep, int far) {
        war.thing(0, 0, -9, deep);
        war.take(0, far % 9, far / 9);
        return war.told(100);
    }

    // "To cut is to leave off what is behind the point, towards 0"
    private static void cutTowardsZero() {
        StereoWar war = new StereoWar();
        war.focus(1);
        check.due("0.95", rightBy(war, 20, 19), 30);
        check.due("-0.95", leftBy(war, 20, 19), 30);
        check.due("1", rightBy(war, 20, 20), 31);
        check.due("-1", leftBy(war, 20, 20), 29);
        check.due("1.95", rightBy(war, 20, 39), 31);
        check.due("-1.95", leftBy(war, 20, 39), 29);
        check.due("30.95", rightBy(war, 20, 619), 60);
        check.due("-30.95", leftBy(war, 20, 619), 0);
        check.due("31", rightBy(war, 20, 620), NONE);
        check.due("-31", leftBy(war, 20, 620), NONE);
        war.focus(40);
        check.due("40 by 20", rightBy(war, 20, 1), 32);
        check.due("40 by 19", leftBy(war, 19, 1), 28);
        check.due("40 by 1", rightBy(war, 1, 1), NONE);
        check.due("-40 by 1", leftBy(war, 1, 1), NONE);
        check.due("0 by 1", leftBy(war, 1, 0), 30);
    }

    private static void farthestThings() {
        StereoWar war = new StereoWar();
        war.focus(40);
        war.thing(0, 99, 9, 1);
        war.thing(1, 0, -9, 1);
        check.due("39600 from stand 0", war.take(0, 0, 99), 0);
        check.due("-39600 from stand 99", war.take(1, 99, 99), 0);
        war.focus(1);
        war.thing(0, 99, 9, 20);
        war.thing(1, 0, -9, 20);
        check.due("49.5 from stand 0", war.take(0, 0, 99), 0);
        check.due("-49.5 from stand 99", war.take(1, 99, 99), 0);
        check.due("25.65 and -30.6 from stand 99", war.take(1, 99, 57), 3);
        check.due("the one's column", war.told(200), 55);
        check.due("the other one's column", war.told(201), 0);
        check.due("26.1 and -31.05 from stand 99", war.take(1, 99, 58), 1);
        check.due("the one's column", war.told(200), 56);
    }

    // "RETOUCHED: a COLUMN (0 to 60), or NONE: which it was"
    private static void retouchAll() {
        StereoWar war = new StereoWar();
        for (int picture = 0; picture < 10; picture += 9) {
            war.take(picture, 0, 0);
            for (int thing = 0; thing < 6; thing++) {
                int before = NONE;
                for (int column : new int[] {0, 60, 1, 59, NONE, 30, NONE, 60, 0}) {
                    check.due("it was", war.retouch(picture, thing, column), before);
                    check.due("it is", war.told(100 * (1 + picture) + thing), column);
                    before = column;
                }
            }
        }
        check.due("the same column again", war.retouch(9, 5, 0), 0);
        check.due("column 61", war.retouch(9, 5, 61), OUTSIDE);
        check.due("column -1", war.retouch(9, 5, -1), OUTSIDE);
        check.due("UNKNOWN as a column", war.retouch(9, 5, UNKNOWN), OUTSIDE);
        check.due("NO as a column", war.retouch(9, 5, StereoWar.NO), OUTSIDE);
        check.due("NONE less 1 as a column", war.retouch(9, 5, NONE - 1), OUTSIDE);
        check.due("it is as it was", war.retouch(9, 5, 0), 0);
        check.due("no thing is there by it", war.told(1), 0);
    }

    private static void retouchOneAlone() {
        StereoWar war = Scenes.FULL.make().get();
        StereoWar same = Scenes.FULL.make().get();
        war.retouch(4, 3, 0);
        for (int picture = 0; picture < 10; picture++) {
            for (int thing = 0; thing < 6; thing++) {
                int code = 100 * (1 + picture) + thing;
                check.due("told(" + code + ")", war.told(code), picture == 4 && thing == 3 ? 0 : same.told(code));
            }
        }
        check.due("a thing that there is not", war.leave(3), 5);
        check.due("may be retouched", war.retouch(4, 3, 60), 0);
    }

    // "A PICTURE is no more: how many are. UNKNOWN: there was none"
    private static void burnAll() {
        StereoWar war = Scenes.FULL.make().get();
        for (int picture = 9; picture >= 0; picture--) {
            check.due("burn(" + picture + ")", war.burn(picture), picture);
            check.due("pictures", war.told(2), (1 << picture) - 1);
            check.due("burn(" + picture + ") again", war.burn(picture), UNKNOWN);
            check.due("retouch of a burnt one", war.retouch(picture, 0, 0), UNKNOWN);
            for (int thing = 0; thing < 6; thing++) {
                check.due("a burnt one's column", war.told(100 * (1 + picture) + thing), OUTSIDE);
            }
        }
        check.due("things stay", war.told(1), 63);
    }

    private static void burntOnesComeBackBlank() {
        StereoWar war = new StereoWar();
        war.take(3, 0, 0);
        war.retouch(3, 2, 60);
        war.burn(3);
        check.due("taken again", war.take(3, 0, 0), 0);
        check.due("what was retouched is gone", war.told(402), NONE);
        check.due("one", war.burn(3), 0);
    }
}
