/** Promises 1 to 4: a new object, things that come and go, the focus. */
public final class ThingsTest {
    private static final Check check = new Check("ThingsTest");

    public static void main(String[] args) {
        newObject();
        thing();
        leave();
        focus();
        check.end();
    }

    // Promise 1
    private static void newObject() {
        StereoWar war = new StereoWar();
        check.due("new: signs", war.told(0), 0);
        check.due("new: things", war.told(1), 0);
        check.due("new: pictures", war.told(2), 0);
        check.due("new: focus", war.told(3), 20);
        check.due("new: fault", war.fault(), StereoWar.NONE);
        check.due("new: restore(0)", war.restore(0), StereoWar.STATE);
        check.due("new: restore(1)", war.restore(1), StereoWar.STATE);
        war.thing(0, 1, 1, 1);
        war.take(0, 1, 1);
        war.say('a');
        StereoWar other = new StereoWar();
        check.due("another new: signs", other.told(0), 0);
        check.due("another new: things", other.told(1), 0);
        check.due("another new: pictures", other.told(2), 0);
    }

    // Promise 2
    private static void thing() {
        StereoWar war = new StereoWar();
        check.due("thing(0)", war.thing(0, 0, -9, 1), 1);
        check.due("thing(5)", war.thing(5, 99, 9, 20), 2);
        check.due("place", war.told(60), 99);
        check.due("pace", war.told(61), 18);
        check.due("deep", war.told(62), 20);
        check.due("least pace", war.told(11), 0);
        check.due("thing(5) otherwise", war.thing(5, 3, 4, 5), 2);
        check.due("place otherwise", war.told(60), 3);
        check.due("pace otherwise", war.told(61), 13);
        check.due("deep otherwise", war.told(62), 5);
        check.due("thing(6)", war.thing(6, 0, 0, 1), StereoWar.UNKNOWN);
        check.due("thing(-1)", war.thing(-1, 0, 0, 1), StereoWar.UNKNOWN);
        check.due("thing(6) ahead of outside", war.thing(6, 100, 10, 0), StereoWar.UNKNOWN);
        check.due("place 100", war.thing(5, 100, 0, 1), StereoWar.OUTSIDE);
        check.due("place -1", war.thing(5, -1, 0, 1), StereoWar.OUTSIDE);
        check.due("pace 10", war.thing(5, 0, 10, 1), StereoWar.OUTSIDE);
        check.due("pace -10", war.thing(5, 0, -10, 1), StereoWar.OUTSIDE);
        check.due("deep 0", war.thing(5, 0, 0, 0), StereoWar.OUTSIDE);
        check.due("deep 21", war.thing(1, 0, 0, 21), StereoWar.OUTSIDE);
        check.due("refused: things", war.told(1), 33);
        check.due("refused: place", war.told(60), 3);
        check.due("refused: deep", war.told(62), 5);
    }

    // Promise 3
    private static void leave() {
        StereoWar war = new StereoWar();
        check.due("leave none", war.leave(0), StereoWar.UNKNOWN);
        war.thing(0, 50, 0, 20);
        war.thing(3, 50, 0, 20);
        war.take(4, 50, 0);
        check.due("leave(3)", war.leave(3), 1);
        check.due("things", war.told(1), 1);
        check.due("the picture stays", war.told(503), 30);
        check.due("leave(3) again", war.leave(3), StereoWar.UNKNOWN);
        check.due("leave(6)", war.leave(6), StereoWar.UNKNOWN);
        check.due("leave(-1)", war.leave(-1), StereoWar.UNKNOWN);
        check.due("leave(0)", war.leave(0), 0);
        check.due("no things", war.told(1), 0);
        check.due("there again", war.thing(3, 1, 2, 3), 1);
    }

    // Promise 4
    private static void focus() {
        StereoWar war = new StereoWar();
        check.due("focus(1)", war.focus(1), 20);
        check.due("focus(40)", war.focus(40), 1);
        check.due("focus(0)", war.focus(0), StereoWar.OUTSIDE);
        check.due("focus(41)", war.focus(41), StereoWar.OUTSIDE);
        check.due("refused: focus", war.told(3), 40);
        war.thing(0, 50, 0, 20);
        war.take(0, 49, 0);
        check.due("focus(10)", war.focus(10), 40);
        war.take(1, 45, 0);
        check.due("a picture of focus 40", war.told(100), 32);
        check.due("a picture of focus 10", war.told(200), 32);
    }
}
