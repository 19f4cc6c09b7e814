/** Promises 23 to 25: walks past the camera, the best stand, years by draws. */
public final class WalksTest {
    private static final Check check = new Check("WalksTest");

    public static void main(String[] args) {
        past();
        best();
        year();
        check.end();
    }

    // Promise 23
    private static void past() {
        StereoWar war = new StereoWar();
        war.thing(0, 0, 1, 20);
        check.due("from 50: minutes 20 to 80", war.past(0, 50, 0), 61);
        check.due("from 50: the first", war.past(0, 50, 1), 20);
        check.due("from 0: minutes 0 to 30", war.past(0, 0, 0), 31);
        check.due("from 0: the first", war.past(0, 0, 1), 0);
        check.due("from 99: minutes 69 to 99", war.past(0, 99, 0), 31);
        war.focus(40);
        check.due("focus 40: minutes 35 to 65", war.past(0, 50, 0), 31);
        war.thing(5, 10, -2, 1);
        check.due("never", war.past(5, 50, 0), 0);
        check.due("never: none", war.past(5, 50, 1), StereoWar.NONE);
        check.due("no thing", war.past(1, 50, 0), StereoWar.UNKNOWN);
        check.due("thing 6", war.past(6, 100, 0), StereoWar.UNKNOWN);
        check.due("thing -1", war.past(-1, 0, 2), StereoWar.UNKNOWN);
        check.due("stand 100", war.past(0, 100, 0), StereoWar.OUTSIDE);
        check.due("stand -1", war.past(0, -1, 0), StereoWar.OUTSIDE);
        check.due("what 2", war.past(0, 0, 2), StereoWar.OUTSIDE);
        check.due("what -1", war.past(0, 0, -1), StereoWar.OUTSIDE);
    }

    // Promise 24
    private static void best() {
        StereoWar war = new StereoWar();
        check.due("no things: the least stand", war.best(0, 0), 0);
        check.due("no things: none shown", war.best(0, 1), 0);
        war.thing(0, 50, 0, 20);
        check.due("from 20 on", war.best(0, 0), 20);
        check.due("one", war.best(0, 1), 1);
        war.thing(1, 95, -1, 20);
        check.due("two from 65 on", war.best(0, 0), 65);
        check.due("two", war.best(0, 1), 2);
        check.due("minute 40: from 25 on", war.best(40, 0), 25);
        check.due("minute 99: the one is gone", war.best(99, 0), 20);
        check.due("minute 99: two", war.best(99, 1), 2);
        war.thing(1, 95, 9, 20);
        check.due("minute 99: the other is far", war.best(99, 1), 1);
        bestAtTheBorders();
        check.due("minute 100", war.best(100, 0), StereoWar.OUTSIDE);
        check.due("minute -1", war.best(-1, 0), StereoWar.OUTSIDE);
        check.due("what 2", war.best(0, 2), StereoWar.OUTSIDE);
        check.due("what -1", war.best(0, -1), StereoWar.OUTSIDE);
    }

    private static void bestAtTheBorders() {
        StereoWar war = new StereoWar();
        war.thing(0, 0, -1, 1);
        check.due("from stand 0 alone", war.best(1, 0), 0);
        check.due("from stand 0 one", war.best(1, 1), 1);
        war.thing(0, 99, 1, 1);
        check.due("from stand 99 alone", war.best(1, 0), 99);
        check.due("from stand 99 one", war.best(1, 1), 1);
        war.thing(0, 98, 9, 5);
        check.due("it would be from stand 100", war.best(1, 0), 0);
        check.due("from no stand", war.best(1, 1), 0);
    }

    // Promise 25: seed 0 draws 74 (left 4, right 7), 5624 (4, 2), 28652 (2, 5) and 51790 (0, 9)
    private static void year() {
        StereoWar war = new StereoWar();
        check.due("no pictures", war.year(0, 99, 1), 0);
        for (int picture = 0; picture < 10; picture++) {
            war.take(picture, 0, 0);
            war.retouch(picture, 0, 6 * picture);
        }
        check.due("the first is turned", war.year(0, 1, 2), 1);
        check.due("the first is not good", war.year(0, 1, 0), 0);
        check.due("the second is good", war.year(0, 2, 0), 1);
        check.due("the third and fourth are turned", war.year(0, 4, 2), 3);
        check.due("none is flat", war.year(0, 4, 1), 0);
        war.burn(7);
        check.due("a picture that there is not", war.year(0, 4, 2), 2);
        check.due("the greatest seed: 29092 (2, 9)", war.year(9999, 1, 2), 1);
        war.retouch(5, 0, 12);
        check.due("flat", war.year(0, 3, 1), 1);
        war.retouch(0, 0, 60);
        war.retouch(0, 1, 9);
        war.retouch(9, 1, 10);
        check.due("confused", war.year(0, 4, 3), 1);
        check.due("seed -1", war.year(-1, 1, 0), StereoWar.OUTSIDE);
        check.due("seed 10000", war.year(10000, 1, 0), StereoWar.OUTSIDE);
        check.due("m 0", war.year(0, 0, 0), StereoWar.OUTSIDE);
        check.due("m 100", war.year(0, 100, 0), StereoWar.OUTSIDE);
        check.due("kind -1", war.year(0, 1, -1), StereoWar.OUTSIDE);
        check.due("kind 4", war.year(0, 1, 4), StereoWar.OUTSIDE);
    }
}
