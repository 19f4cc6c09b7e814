/** Promises 26 to 28 at their borders: images of nothing and of all, kept or not; every code that can be told. */
public final class ImageBordersTest {
    private static final Check check = new Check("ImageBordersTest");
    private static final int NONE = StereoWar.NONE, OUTSIDE = StereoWar.OUTSIDE, STATE = StereoWar.STATE;
    private static final int LEAST = Integer.MIN_VALUE, GREATEST = Integer.MAX_VALUE;

    public static void main(String[] args) {
        imageNumbers();
        restoreOfNone();
        imagesOfNothing();
        imagesOfAll();
        eachImageByItself();
        imagesDoNotChange();
        thePadIsNotKept();
        restoredByOtherCalls();
        for (Scenes.Scene scene : Scenes.ALL) {
            onlyTheseCodesAreTold(scene, -120, 300);
            onlyTheseCodesAreTold(scene, 300, 720);
            onlyTheseCodesAreTold(scene, 720, 1140);
        }
        farCodes();
        toldFromLeastToGreatest();
        check.end();
    }

    // "IMAGE (0, 1): 1. OUTSIDE"; "1. OUTSIDE; STATE: it was not"
    private static void imageNumbers() {
        StereoWar war = new StereoWar();
        for (int k : new int[] {-1, 2, LEAST, GREATEST}) {
            check.due("image(" + k + ")", war.image(k), OUTSIDE);
            check.due("restore(" + k + "), none kept", war.restore(k), OUTSIDE);
        }
        check.due("restore(0), none kept", war.restore(0), STATE);
        check.due("restore(1), none kept", war.restore(1), STATE);
        check.due("image(1)", war.image(1), 1);
        check.due("restore(0), 1 kept", war.restore(0), STATE);
        check.due("restore(1), 1 kept", war.restore(1), 1);
        check.due("image(0)", war.image(0), 1);
        check.due("restore(0), both kept", war.restore(0), 1);
        check.due("restore(1), both kept", war.restore(1), 1);
        check.due("restore(1) again", war.restore(1), 1);
        for (int k : new int[] {-1, 2, LEAST, GREATEST}) {
            check.due("restore(" + k + "), both kept", war.restore(k), OUTSIDE);
        }
        check.due("of another object none is kept", new StereoWar().restore(0), STATE);
    }

    private static void restoreOfNone() {
        check.fine("restore(0) of some changes something", Scenes.changesNothing(Scenes.SOME, war -> war.restore(0)));
        check.fine("restore(2) of all changes something", Scenes.changesNothing(Scenes.FULL, war -> war.restore(2)));
        check.fine("image(2) of all changes something", Scenes.changesNothing(Scenes.FULL, war -> war.image(2)));
        check.fine("image(-1) of all changes something", Scenes.changesNothing(Scenes.FULL, war -> war.image(-1)));
    }

    // an IMAGE of no THINGS and no PICTURES leaves none
    private static void imagesOfNothing() {
        for (int k = 0; k < 2; k++) {
            StereoWar war = new StereoWar();
            war.image(k);
            for (int number = 0; number < 10; number++) {
                war.thing(number, 50, 0, 1);
                war.take(number, 50, 0);
            }
            war.focus(40);
            Check.album(war, "ab");
            check.due("restore(" + k + ")", war.restore(k), 1);
            check.due("signs", war.told(0), 2);
            check.due("things", war.told(1), 0);
            check.due("pictures", war.told(2), 0);
            check.due("focus", war.told(3), 20);
            check.due("the first thing's place", war.told(10), OUTSIDE);
            check.due("the last picture's column", war.told(1005), OUTSIDE);
            check.due("the pair can not be now", war.judge(1), 1);
            check.due("a thing again", war.thing(0, 1, 1, 1), 1);
            check.due("a picture again shows it", war.take(9, 1, 0), 1);
            check.due("those that are gone are not shown", war.told(1005), NONE);
        }
    }

    private static void imagesOfAll() {
        for (int k = 0; k < 2; k++) {
            StereoWar war = Scenes.FULL.make().get();
            StereoWar same = Scenes.FULL.make().get();
            war.image(k);
            for (int number = 0; number < 10; number++) {
                war.leave(number);
                war.burn(number);
            }
            war.focus(1);
            check.due("nothing is left", war.told(1) + war.told(2), 0);
            check.due("restore(" + k + ")", war.restore(k), 1);
            for (int code = 0; code < 63; code++) {
                check.due("told(" + code + ")", war.told(code), same.told(code));
            }
            for (int picture = 0; picture < 10; picture++) {
                for (int thing = 0; thing < 6; thing++) {
                    int code = 100 * (1 + picture) + thing;
                    check.due("told(" + code + ")", war.told(code), same.told(code));
                }
            }
        }
    }

    private static void eachImageByItself() {
        StereoWar war = new StereoWar();
        war.focus(1);
        war.image(0);
        war.focus(2);
        war.image(1);
        war.focus(3);
        for (int time = 0; time < 3; time++) {
            war.restore(0);
            check.due("of image 0", war.told(3), 1);
            war.restore(1);
            check.due("of image 1", war.told(3), 2);
        }
        war.image(0);
        war.focus(4);
        war.restore(0);
        check.due("image 0 is kept anew, as image 1", war.told(3), 2);
        war.focus(40);
        war.image(1);
        war.restore(0);
        check.due("image 0 stays", war.told(3), 2);
        war.restore(1);
        check.due("image 1 is kept anew", war.told(3), 40);
    }

    // "It is as it was when it was kept", whatever was done behind it, more than once
    private static void imagesDoNotChange() {
        StereoWar war = new StereoWar();
        war.thing(0, 50, 0, 20);
        war.thing(5, 60, 9, 20);
        war.take(0, 50, 0);
        war.take(9, 50, 0);
        war.image(0);
        for (int time = 0; time < 5; time++) {
            war.thing(0, 99 - time, 9, 1);
            war.leave(5);
            war.thing(1, 1, 1, 1);
            war.focus(40 - time);
            war.retouch(0, 0, time);
            war.retouch(0, 3, time);
            war.burn(9);
            war.take(4, 0, 0);
            check.due("restore(0)", war.restore(0), 1);
            check.due("things", war.told(1), 33);
            check.due("place", war.told(10), 50);
            check.due("pace and 9", war.told(11), 9);
            check.due("deep", war.told(12), 20);
            check.due("place of 5", war.told(60), 60);
            check.due("focus", war.told(3), 20);
            check.due("pictures", war.told(2), 513);
            check.due("column", war.told(100), 30);
            check.due("no column", war.told(103), NONE);
            check.due("column of the burnt one", war.told(1005), 40);
        }
    }

    // "All but the PAD is kept"
    private static void thePadIsNotKept() {
        StereoWar war = new StereoWar();
        Check.album(war, "ab/");
        war.image(0);
        war.wipe();
        war.restore(0);
        check.due("wiped signs stay away", war.told(0), 0);
        for (int sign = 0; sign < 60; sign++) {
            war.say('k');
        }
        war.restore(0);
        check.due("said signs stay", war.told(0), 60);
        check.due("their fault stays", war.fault(), 0);
        check.due("the pad is still full", war.say('a'), StereoWar.FULL);
        check.due("sixty are wiped", war.wipe(), 60);
    }

    private static void restoredByOtherCalls() {
        StereoWar war = new StereoWar();
        war.thing(0, 50, 0, 20);
        war.take(0, 49, 0);
        war.take(1, 51, 0);
        war.image(1);
        war.burn(1);
        war.thing(0, 50, 0, 1);
        check.due("no pair", war.kind(0, 1), StereoWar.UNKNOWN);
        check.due("as from nowhere", war.stood(0, -1), 0);
        war.restore(1);
        check.due("good again", war.kind(0, 1), 0);
        check.due("with whom", war.match(3, 0), 1);
        check.due("from 49 again", war.stood(0, 0), 49);
        check.due("past it, always", war.past(0, 49, 0), 100);
        check.due("late", war.late(49, 0, 2, 0, 0, 0, 0), 1);
    }

    // "0 signs, 1 THINGS (bits), 2 PICTURES (bits), 3 FOCUS, 10 times .. 100 times ..": no other code, none not there
    private static void onlyTheseCodesAreTold(Scenes.Scene scene, int from, int behind) {
        StereoWar war = scene.make().get();
        for (int code = from; code < behind; code += 2) {
            check.fine(scene.name() + ": told(" + code + ")", (war.told(code) == OUTSIDE) == !canBeTold(scene, code));
        }
        war = scene.make().get();
        for (int code = from + 1; code < behind; code += 2) {
            check.fine(scene.name() + ": told(" + code + ")", (war.told(code) == OUTSIDE) == !canBeTold(scene, code));
        }
    }

    private static boolean canBeTold(Scenes.Scene scene, int code) {
        boolean can = code >= 0 && code <= 3;
        for (int number = 0; number < 10; number++) {
            boolean isThing = (scene.things() >> number & 1) == 1;
            boolean isPicture = (scene.pictures() >> number & 1) == 1;
            can |= isThing && code >= 10 * (1 + number) && code <= 10 * (1 + number) + 2;
            can |= isPicture && code >= 100 * (1 + number) && code <= 100 * (1 + number) + 5;
        }
        return can;
    }

    private static void farCodes() {
        for (Scenes.Scene scene : new Scenes.Scene[] {Scenes.NEW, Scenes.FULL}) {
            StereoWar war = scene.make().get();
            for (int code : new int[] {LEAST, LEAST + 1, LEAST + 10, LEAST + 100, -1000, -100, -10, -1, 4, 9, 63, 70, 99,
                1006, 1010, 1100, 1105, 65546, GREATEST - 1, GREATEST}) {
                check.due(scene.name() + ": told(" + code + ")", war.told(code), OUTSIDE);
            }
        }
    }

    private static void toldFromLeastToGreatest() {
        StereoWar war = new StereoWar();
        for (int thing = 0; thing < 6; thing++) {
            war.thing(thing, 0, -9, 1);
            check.due("least place", war.told(10 + 10 * thing), 0);
            check.due("least pace and 9", war.told(11 + 10 * thing), 0);
            check.due("least deep", war.told(12 + 10 * thing), 1);
            war.thing(thing, 99, 9, 20);
            check.due("greatest place", war.told(10 + 10 * thing), 99);
            check.due("greatest pace and 9", war.told(11 + 10 * thing), 18);
            check.due("greatest deep", war.told(12 + 10 * thing), 20);
        }
        check.due("all things", war.told(1), 63);
        for (int picture = 0; picture < 10; picture++) {
            war.take(picture, 0, 99);
            for (int thing = 0; thing < 6; thing++) {
                int code = 100 * (1 + picture) + thing;
                check.due("not shown", war.told(code), NONE);
                war.retouch(picture, thing, 60);
                check.due("the last column", war.told(code), 60);
                war.retouch(picture, thing, 0);
                check.due("the first column", war.told(code), 0);
            }
        }
        check.due("all pictures", war.told(2), 1023);
    }
}
