/** Promises 16 and 21: the most good pairs, three eyes. */
public final class MatchTest {
    private static final Check check = new Check("MatchTest");
    private static final int NONE = StereoWar.NONE;

    public static void main(String[] args) {
        chain();
        triangles();
        square();
        wholeSet();
        refused();
        eyes();
        check.end();
    }

    /** Pictures that show nothing: flat with each other. */
    private static StereoWar blank(int pictures) {
        StereoWar war = new StereoWar();
        for (int picture = 0; picture < pictures; picture++) {
            war.take(picture, 0, 0);
        }
        return war;
    }

    /** The left one and the right one, blank else, become good by a thing of their own. */
    private static void befriend(StereoWar war, int left, int right, int thing) {
        war.retouch(left, thing, 20);
        war.retouch(right, thing, 10);
    }

    private static void rows(StereoWar war, int set, int pairs, int... partners) {
        check.due("match(" + set + ", -1)", war.match(set, -1), pairs);
        for (int picture = 0; picture < partners.length; picture++) {
            check.due("match(" + set + ", " + picture + ")", war.match(set, picture), partners[picture]);
        }
    }

    // Promise 16: 1 is good with 0, with 2 turned; 2 with 3
    private static void chain() {
        StereoWar war = blank(4);
        befriend(war, 0, 1, 0);
        befriend(war, 2, 1, 1);
        befriend(war, 2, 3, 2);
        rows(war, 15, 2, 1, 0, 3, 2);
        rows(war, 7, 1, 1, 0, NONE);
        check.due("of a part", war.match(14, -1), 1);
        check.due("the least is with whom it can", war.match(14, 1), 2);
        check.due("left alone", war.match(14, 3), NONE);
        check.due("flat pairs are none", war.match(9, -1), 0);
        check.due("alone", war.match(9, 3), NONE);
        rows(war, 0, 0);
        rows(war, 1, 0, NONE);
    }

    // Promise 16: the least stays alone only where the most pairs need it
    private static void triangles() {
        StereoWar war = blank(5);
        befriend(war, 0, 1, 0);
        befriend(war, 1, 2, 1);
        befriend(war, 0, 2, 2);
        rows(war, 31, 1, 1, 0, NONE, NONE, NONE);
        befriend(war, 3, 1, 3);
        rows(war, 31, 2, 2, 3, 0, 1, NONE);
        befriend(war, 4, 2, 4);
        rows(war, 31, 2, 1, 0, 4, NONE, 2);
    }

    // Promise 16: 0 and 1 are each good with 2 and with 3; the least has the least
    private static void square() {
        StereoWar war = blank(4);
        befriend(war, 0, 2, 0);
        befriend(war, 0, 3, 1);
        befriend(war, 1, 2, 2);
        befriend(war, 1, 3, 3);
        rows(war, 15, 2, 2, 3, 0, 1);
        check.due("of a part", war.match(7, 0), 2);
        check.due("alone in a part", war.match(7, 1), NONE);
    }

    // Promise 16: ten that are all good with each other
    private static void wholeSet() {
        StereoWar war = blank(10);
        for (int picture = 0; picture < 10; picture++) {
            war.retouch(picture, 5, 6 * picture);
        }
        rows(war, 1023, 5, 1, 0, 3, 2, 5, 4, 7, 6, 9, 8);
        check.due("an odd set", war.match(1022, -1), 4);
        check.due("the last is alone", war.match(1022, 9), NONE);
        check.due("the second is with the third", war.match(1022, 2), 1);
    }

    // Promise 16
    private static void refused() {
        StereoWar war = blank(3);
        check.due("a set with one that there is not", war.match(15, -1), StereoWar.UNKNOWN);
        check.due("a set below 0", war.match(-1, -1), StereoWar.UNKNOWN);
        check.due("the least set", war.match(Integer.MIN_VALUE, -1), StereoWar.UNKNOWN);
        check.due("a set above 1023", war.match(1024, -1), StereoWar.UNKNOWN);
        check.due("one that is not of the set", war.match(5, 1), StereoWar.UNKNOWN);
        check.due("picture 10", war.match(5, 10), StereoWar.UNKNOWN);
        check.due("picture 32", war.match(5, 32), StereoWar.UNKNOWN);
        check.due("picture -2", war.match(5, -2), StereoWar.UNKNOWN);
        check.due("none", war.match(0, 0), StereoWar.UNKNOWN);
    }

    // Promise 21
    private static void eyes() {
        StereoWar war = new StereoWar();
        check.due("no pictures", war.eyes(), 0);
        war = blank(5);
        check.due("all flat", war.eyes(), 0);
        befriend(war, 0, 1, 0);
        check.due("one pair", war.eyes(), 0);
        befriend(war, 1, 2, 1);
        check.due("a row", war.eyes(), 1);
        befriend(war, 3, 1, 2);
        check.due("two ends, one behind", war.eyes(), 2);
        befriend(war, 1, 4, 3);
        check.due("two ahead, two behind", war.eyes(), 4);
        StereoWar all = blank(4);
        for (int picture = 0; picture < 4; picture++) {
            all.retouch(picture, 0, 9 - picture);
        }
        check.due("four in a row", all.eyes(), 4);
        StereoWar round = blank(3);
        befriend(round, 0, 1, 0);
        befriend(round, 1, 2, 1);
        befriend(round, 2, 0, 2);
        check.due("a ring", round.eyes(), 3);
    }
}
