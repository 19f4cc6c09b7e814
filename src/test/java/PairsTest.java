/** Promises 13 to 15: the kind of a pair, shifts, what is near. */
public final class PairsTest {
    private static final Check check = new Check("PairsTest");

    public static void main(String[] args) {
        kind();
        shift();
        near();
        check.end();
    }

    private static void columns(StereoWar war, int picture, int... columns) {
        war.take(picture, 0, 0);
        for (int thing = 0; thing < columns.length; thing++) {
            war.retouch(picture, thing, columns[thing]);
        }
    }

    // Promise 13
    private static void kind() {
        int none = StereoWar.NONE;
        StereoWar war = new StereoWar();
        columns(war, 0, 10, 20, 30, 40, 50, 60);
        columns(war, 1, 10, 20, 30, 40, 50, 59);
        columns(war, 2, none, none, none, none, none, none);
        columns(war, 3, 11, 20, 30, 40, 50, 59);
        columns(war, 4, none, 20, 30, none, 50, none);
        columns(war, 5, 0, none, none, 0, none, 0);
        check.due("good", war.kind(0, 1), 0);
        check.due("turned", war.kind(1, 0), 2);
        check.due("nothing in both: flat", war.kind(0, 2), 1);
        check.due("nothing in both, either way", war.kind(2, 0), 1);
        check.due("confused", war.kind(0, 3), 3);
        check.due("confused, either way", war.kind(3, 0), 3);
        check.due("all in both alike: flat", war.kind(0, 4), 1);
        check.due("none of both is the other's: flat", war.kind(4, 5), 1);
        check.due("all above 0", war.kind(0, 5), 0);
        check.due("all below 0", war.kind(5, 0), 2);
        check.due("one", war.kind(0, 0), StereoWar.UNKNOWN);
        check.due("no left", war.kind(6, 0), StereoWar.UNKNOWN);
        check.due("no right", war.kind(0, 9), StereoWar.UNKNOWN);
        check.due("left 10", war.kind(10, 0), StereoWar.UNKNOWN);
        check.due("right -1", war.kind(0, -1), StereoWar.UNKNOWN);
        war.burn(1);
        check.due("burnt", war.kind(0, 1), StereoWar.UNKNOWN);
    }

    // Promise 14
    private static void shift() {
        int none = StereoWar.NONE;
        StereoWar war = new StereoWar();
        columns(war, 0, 60, 0, 30, none, 5, none);
        columns(war, 1, 0, 60, 30, 5, none, none);
        check.due("60 less 0", war.shift(0, 1, 0), 160);
        check.due("0 less 60", war.shift(0, 1, 1), 40);
        check.due("alike", war.shift(0, 1, 2), 100);
        check.due("not in the left", war.shift(0, 1, 3), StereoWar.STATE);
        check.due("not in the right", war.shift(0, 1, 4), StereoWar.STATE);
        check.due("in none", war.shift(0, 1, 5), StereoWar.STATE);
        check.due("thing 6", war.shift(0, 1, 6), StereoWar.UNKNOWN);
        check.due("thing -1", war.shift(0, 1, -1), StereoWar.UNKNOWN);
        check.due("one", war.shift(1, 1, 0), StereoWar.UNKNOWN);
        check.due("one, ahead of state", war.shift(1, 1, 5), StereoWar.UNKNOWN);
        check.due("no left", war.shift(2, 1, 0), StereoWar.UNKNOWN);
        check.due("no right", war.shift(1, 10, 0), StereoWar.UNKNOWN);
    }

    // Promise 15
    private static void near() {
        int none = StereoWar.NONE;
        StereoWar war = new StereoWar();
        columns(war, 0, 20, 30, 40, 30, none, 10);
        columns(war, 1, 20, 25, 30, 25, 50, 20);
        columns(war, 2, none, none, none, none, none, none);
        check.due("how many", war.near(0, 1, -1), 5);
        check.due("the greatest", war.near(0, 1, 0), 2);
        check.due("of two alike the least", war.near(0, 1, 1), 1);
        check.due("of two alike the other", war.near(0, 1, 2), 3);
        check.due("0", war.near(0, 1, 3), 0);
        check.due("the least", war.near(0, 1, 4), 5);
        check.due("behind the last", war.near(0, 1, 5), none);
        check.due("below -1", war.near(0, 1, -2), none);
        check.due("far below", war.near(0, 1, Integer.MIN_VALUE), none);
        check.due("turned", war.near(1, 0, 0), 5);
        check.due("turned, of two alike the least", war.near(1, 0, 2), 1);
        check.due("nothing", war.near(0, 2, -1), 0);
        check.due("the first of nothing", war.near(0, 2, 0), none);
        check.due("one", war.near(0, 0, -1), StereoWar.UNKNOWN);
        check.due("no left", war.near(3, 0, -2), StereoWar.UNKNOWN);
        check.due("no right", war.near(0, 3, 99), StereoWar.UNKNOWN);
    }
}
