/** Promises 5 to 7: pictures taken, retouched, burnt. */
public final class PicturesTest {
    private static final Check check = new Check("PicturesTest");

    public static void main(String[] args) {
        columns();
        take();
        retouch();
        burn();
        check.end();
    }

    // Promise 5: where a camera has a thing
    private static void columns() {
        StereoWar war = new StereoWar();
        war.thing(0, 50, 0, 20);
        check.due("at 60", war.take(0, 20, 0), 1);
        check.due("column 60", war.told(100), 60);
        check.due("at 61", war.take(0, 19, 0), 0);
        check.due("not shown", war.told(100), StereoWar.NONE);
        check.due("at 0", war.take(0, 80, 0), 1);
        check.due("column 0", war.told(100), 0);
        check.due("at -1", war.take(0, 81, 0), 0);
        war.focus(1);
        war.thing(0, 50, 0, 3);
        war.take(0, 46, 0);
        check.due("4 by 3, cut", war.told(100), 31);
        war.take(0, 54, 0);
        check.due("-4 by 3, cut towards 0", war.told(100), 29);
        war.take(0, 52, 0);
        check.due("-2 by 3, cut towards 0", war.told(100), 30);
        war.thing(0, 0, 9, 20);
        war.take(0, 99, 99);
        check.due("792 by 20, cut: shown no more", war.told(100), StereoWar.NONE);
        war.take(0, 99, 51);
        check.due("360 by 20", war.told(100), 48);
        war.thing(0, 99, -9, 20);
        war.take(0, 0, 51);
        check.due("-360 by 20", war.told(100), 12);
    }

    // Promise 5
    private static void take() {
        StereoWar war = new StereoWar();
        check.due("nothing there", war.take(9, 99, 99), 0);
        check.due("pictures", war.told(2), 512);
        war.thing(1, 50, 0, 20);
        war.thing(4, 50, 9, 1);
        check.due("both", war.take(0, 50, 0), 18);
        check.due("one has gone out of sight", war.take(1, 50, 1), 2);
        check.due("old one stays", war.told(104), 30);
        check.due("anew", war.take(0, 50, 1), 2);
        check.due("anew: not shown", war.told(104), StereoWar.NONE);
        check.due("a thing not there", war.told(100), StereoWar.NONE);
        war.thing(1, 60, 0, 20);
        check.due("a picture stays as it was taken", war.told(101), 30);
        check.due("picture 10", war.take(10, 0, 0), StereoWar.UNKNOWN);
        check.due("picture -1", war.take(-1, 100, 0), StereoWar.UNKNOWN);
        check.due("stand 100", war.take(0, 100, 0), StereoWar.OUTSIDE);
        check.due("stand -1", war.take(0, -1, 0), StereoWar.OUTSIDE);
        check.due("minute 100", war.take(0, 0, 100), StereoWar.OUTSIDE);
        check.due("minute -1", war.take(5, 0, -1), StereoWar.OUTSIDE);
        check.due("refused: pictures", war.told(2), 515);
        check.due("refused: column", war.told(101), 30);
    }

    // Promise 6
    private static void retouch() {
        StereoWar war = new StereoWar();
        war.thing(0, 50, 0, 20);
        war.take(2, 50, 0);
        check.due("column 60", war.retouch(2, 0, 60), 30);
        check.due("not shown", war.retouch(2, 0, StereoWar.NONE), 60);
        check.due("column 0", war.retouch(2, 0, 0), StereoWar.NONE);
        check.due("told", war.told(300), 0);
        check.due("a thing that there is not", war.retouch(2, 5, 7), StereoWar.NONE);
        check.due("told 5", war.told(305), 7);
        check.due("the thing is as it was", war.told(1), 1);
        check.due("thing 6", war.retouch(2, 6, 7), StereoWar.UNKNOWN);
        check.due("thing -1", war.retouch(2, -1, 99), StereoWar.UNKNOWN);
        check.due("no picture 3", war.retouch(3, 0, 61), StereoWar.UNKNOWN);
        check.due("picture 10", war.retouch(10, 0, 0), StereoWar.UNKNOWN);
        check.due("column 61", war.retouch(2, 0, 61), StereoWar.OUTSIDE);
        check.due("column -1", war.retouch(2, 0, -1), StereoWar.OUTSIDE);
        check.due("column -7", war.retouch(2, 0, -7), StereoWar.OUTSIDE);
        check.due("refused: column", war.told(300), 0);
        check.due("taken anew", war.take(2, 50, 0), 1);
        check.due("anew: told 5", war.told(305), StereoWar.NONE);
    }

    // Promise 7
    private static void burn() {
        StereoWar war = new StereoWar();
        check.due("none", war.burn(0), StereoWar.UNKNOWN);
        war.take(0, 0, 0);
        war.take(9, 0, 0);
        check.due("burn(9)", war.burn(9), 1);
        check.due("pictures", war.told(2), 1);
        check.due("burn(9) again", war.burn(9), StereoWar.UNKNOWN);
        check.due("burn(10)", war.burn(10), StereoWar.UNKNOWN);
        check.due("burn(-1)", war.burn(-1), StereoWar.UNKNOWN);
        check.due("burn(0)", war.burn(0), 0);
        check.due("no column is told", war.told(100), StereoWar.OUTSIDE);
    }
}
