/** Promises 26 to 28: images, what is told. */
public final class ImagesTest {
    private static final Check check = new Check("ImagesTest");

    public static void main(String[] args) {
        image();
        restore();
        told();
        check.end();
    }

    // Promise 26
    private static void image() {
        StereoWar war = new StereoWar();
        check.due("image(2)", war.image(2), StereoWar.OUTSIDE);
        check.due("image(-1)", war.image(-1), StereoWar.OUTSIDE);
        check.due("image(0)", war.image(0), 1);
        check.due("image(1) is not kept by it", war.restore(1), StereoWar.STATE);
        war.focus(7);
        check.due("image(1)", war.image(1), 1);
        war.focus(8);
        war.restore(0);
        check.due("of image 0", war.told(3), 20);
        war.restore(1);
        check.due("of image 1", war.told(3), 7);
        war.focus(9);
        check.due("kept anew", war.image(1), 1);
        war.focus(10);
        war.restore(1);
        check.due("of image 1 anew", war.told(3), 9);
    }

    // Promise 27
    private static void restore() {
        StereoWar war = new StereoWar();
        check.due("not kept", war.restore(0), StereoWar.STATE);
        check.due("restore(2)", war.restore(2), StereoWar.OUTSIDE);
        check.due("restore(-1)", war.restore(-1), StereoWar.OUTSIDE);
        war.thing(1, 50, 3, 20);
        war.thing(2, 40, 0, 10);
        war.take(3, 50, 0);
        war.take(4, 60, 0);
        war.focus(30);
        war.say('a');
        check.due("image(1)", war.image(1), 1);
        war.thing(1, 1, 2, 3);
        war.leave(2);
        war.thing(5, 9, 9, 9);
        war.retouch(3, 1, 2);
        war.burn(4);
        war.take(9, 0, 0);
        war.focus(1);
        war.say('b');
        check.due("restore(1)", war.restore(1), 1);
        check.due("things", war.told(1), 6);
        check.due("place", war.told(20), 50);
        check.due("pace", war.told(21), 12);
        check.due("deep", war.told(22), 20);
        check.due("the other's place", war.told(30), 40);
        check.due("pictures", war.told(2), 24);
        check.due("column", war.told(401), 30);
        check.due("the burnt one's column", war.told(501), 20);
        check.due("focus", war.told(3), 30);
        check.due("the pad is not kept", war.told(0), 2);
        war.retouch(3, 1, 9);
        war.thing(1, 2, 2, 2);
        check.due("restore(1) again", war.restore(1), 1);
        check.due("column again", war.told(401), 30);
        check.due("place again", war.told(20), 50);
        check.due("image 0 is still not kept", war.restore(0), StereoWar.STATE);
        restoreFirst();
    }

    private static void restoreFirst() {
        StereoWar war = new StereoWar();
        war.thing(0, 50, 1, 20);
        war.take(0, 50, 0);
        war.take(1, 51, 0);
        war.image(0);
        check.due("an image of what is there", war.told(2), 3);
        war.leave(0);
        war.burn(0);
        war.retouch(1, 0, StereoWar.NONE);
        check.due("restore(0)", war.restore(0), 1);
        check.due("thing 0", war.told(10), 50);
        check.due("picture 0", war.told(100), 30);
        check.due("thing 0 in picture 1", war.told(200), 29);
    }

    // Promise 28
    private static void told() {
        StereoWar war = new StereoWar();
        war.thing(0, 11, -9, 1);
        war.thing(5, 88, 9, 20);
        war.take(0, 11, 0);
        war.take(9, 88, 0);
        war.focus(33);
        Check.album(war, "!!!");
        check.due("signs", war.told(0), 3);
        check.due("things", war.told(1), 33);
        check.due("pictures", war.told(2), 513);
        check.due("focus", war.told(3), 33);
        check.due("place of 0", war.told(10), 11);
        check.due("pace of 0", war.told(11), 0);
        check.due("deep of 0", war.told(12), 1);
        check.due("place of 5", war.told(60), 88);
        check.due("pace of 5", war.told(61), 18);
        check.due("deep of 5", war.told(62), 20);
        check.due("column of 0 in 0", war.told(100), 30);
        check.due("column of 5 in 0", war.told(105), StereoWar.NONE);
        check.due("column of 3 in 0", war.told(103), StereoWar.NONE);
        check.due("column of 0 in 9", war.told(1000), StereoWar.NONE);
        check.due("column of 5 in 9", war.told(1005), 30);
        int[] outside = {-1, -10, -11, -100, -1000, 4, 9, 13, 19, 20, 31, 59, 63, 69, 70, 80, 99, 106, 110, 199, 200,
            205, 900, 999, 1006, 1010, 1099, 1100, 1105, 10000, Integer.MAX_VALUE, Integer.MIN_VALUE};
        for (int what : outside) {
            check.due("told(" + what + ")", war.told(what), StereoWar.OUTSIDE);
        }
    }
}
