/** Promises 17 to 20: where and when a picture was taken, and by what. */
public final class StandsTest {
    private static final Check check = new Check("StandsTest");
    private static final int NONE = StereoWar.NONE;

    public static void main(String[] args) {
        stood();
        stoodByWhatIsNow();
        forged();
        ahead();
        missing();
        firstAndLast();
        pinnedMinutes();
        beyondTheLastStand();
        beyondTheLastMinute();
        check.end();
    }

    // Promise 17
    private static void stood() {
        StereoWar war = new StereoWar();
        war.thing(0, 0, 1, 20);
        war.take(0, 3, 5);
        check.due("one ahead each minute", war.stood(0, -1), 98);
        check.due("the first", war.stood(0, 0), 200);
        check.due("the second", war.stood(0, 1), 301);
        check.due("the last", war.stood(0, 97), 9997);
        check.due("behind the last", war.stood(0, 98), NONE);
        check.due("below -1", war.stood(0, -2), NONE);
        check.due("far above", war.stood(0, Integer.MAX_VALUE), NONE);
        war.thing(1, 50, 0, 10);
        war.take(0, 46, 5);
        check.due("not shown one, far shown one", war.told(100), NONE);
        check.due("from 46, in minutes 0 to 15 and 77 to 99", war.stood(0, -1), 39);
        check.due("the first where 0 is out of sight", war.stood(0, 0), 46);
        check.due("no picture", war.stood(1, -1), StereoWar.UNKNOWN);
        check.due("picture 10", war.stood(10, 0), StereoWar.UNKNOWN);
        check.due("picture -1", war.stood(-1, -2), StereoWar.UNKNOWN);
    }

    // Promise 17: by what is there now
    private static void stoodByWhatIsNow() {
        StereoWar war = new StereoWar();
        war.take(0, 0, 0);
        check.due("nothing: from all", war.stood(0, -1), 10000);
        check.due("nothing: the last", war.stood(0, 9999), 9999);
        check.due("nothing: behind", war.stood(0, 10000), NONE);
        war.thing(2, 50, 0, 20);
        war.take(1, 40, 0);
        check.due("from 40", war.stood(1, -1), 100);
        check.due("from 40 in minute 99", war.stood(1, 99), 9940);
        check.due("the blank one: from where 2 is not shown", war.stood(0, -1), 3900);
        check.due("the blank one: ahead of 20", war.stood(0, 19), 19);
        check.due("the blank one: behind 80", war.stood(0, 20), 81);
        war.thing(2, 60, 0, 20);
        check.due("now it is at 60", war.stood(1, 0), 50);
        war.focus(40);
        check.due("now the focus is 40", war.stood(1, 0), 55);
        war.leave(2);
        check.due("now it is not there", war.stood(1, -1), 0);
        check.due("now it is not there: none", war.stood(1, 0), NONE);
        check.due("from all again", war.stood(0, -1), 10000);
    }

    // Promise 18
    private static void forged() {
        StereoWar war = new StereoWar();
        war.thing(0, 50, 0, 20);
        war.thing(1, 60, 0, 20);
        war.thing(2, 70, 0, 20);
        war.take(0, 50, 0);
        check.due("true", war.forged(0, 0), 0);
        check.due("true: nothing", war.forged(0, 1), 0);
        war.retouch(0, 1, 41);
        check.due("one", war.forged(0, 0), 1);
        check.due("that one", war.forged(0, 1), 2);
        war.retouch(0, 0, 31);
        check.due("two are as from 49", war.forged(0, 0), 1);
        check.due("the third is not", war.forged(0, 1), 4);
        war.retouch(0, 1, 45);
        check.due("each is from elsewhere", war.forged(0, 0), 2);
        check.due("two, least as bits", war.forged(0, 1), 3);
        war.retouch(0, 2, 60);
        check.due("each is from elsewhere, the third from the least stand", war.forged(0, 0), 2);
        check.due("two, least as bits, from whatever stand", war.forged(0, 1), 3);
        war.retouch(0, 5, 3);
        check.due("one more that there is not", war.forged(0, 0), 3);
        check.due("with the one that there is not", war.forged(0, 1), 35);
        war.leave(0);
        war.leave(1);
        war.leave(2);
        check.due("all that are shown", war.forged(0, 1), 39);
        check.due("so many", war.forged(0, 0), 4);
        for (int thing = 0; thing < 6; thing++) {
            war.retouch(0, thing, 0);
        }
        check.due("all six", war.forged(0, 0), 6);
        check.due("all six as bits", war.forged(0, 1), 63);
        check.due("what 2", war.forged(0, 2), StereoWar.OUTSIDE);
        check.due("what -1", war.forged(0, -1), StereoWar.OUTSIDE);
        check.due("no picture, ahead of outside", war.forged(1, 2), StereoWar.UNKNOWN);
        check.due("picture 10", war.forged(10, 0), StereoWar.UNKNOWN);
    }

    // Promise 19
    private static void ahead() {
        StereoWar war = new StereoWar();
        war.thing(0, 50, 0, 20);
        war.thing(1, 50, 1, 20);
        war.take(0, 50, 3);
        war.take(1, 51, 9);
        war.take(2, 49, 9);
        check.due("ahead", war.ahead(0, 1), 1);
        check.due("behind", war.ahead(1, 0), 2);
        check.due("the same minute", war.ahead(1, 2), 0);
        war.leave(1);
        check.due("one could not be taken", war.ahead(0, 1), NONE);
        for (int picture = 0; picture < 3; picture++) {
            war.retouch(picture, 1, NONE);
        }
        check.due("any minute", war.ahead(0, 1), 0);
        war.thing(1, 50, 1, 20);
        war.take(3, 20, 0);
        war.retouch(3, 1, NONE);
        check.due("minutes 1 to 99 and 31 to 99", war.ahead(3, 0), 0);
        war.take(4, 50, 31);
        war.take(5, 50, 30);
        check.due("31 to 99 are behind 30", war.ahead(4, 5), 2);
        check.due("30 is ahead of 31 to 99", war.ahead(5, 4), 1);
        war.retouch(0, 3, 1);
        check.due("the one could not be", war.ahead(0, 5), NONE);
        check.due("the other one could not be", war.ahead(5, 0), NONE);
        check.due("one", war.ahead(5, 5), StereoWar.UNKNOWN);
        check.due("one, that could not be", war.ahead(0, 0), StereoWar.UNKNOWN);
        check.due("no picture", war.ahead(6, 0), StereoWar.UNKNOWN);
        check.due("no other", war.ahead(0, 10), StereoWar.UNKNOWN);
    }

    // Promise 20
    private static void missing() {
        StereoWar war = new StereoWar();
        war.thing(0, 50, 0, 20);
        war.thing(1, 50, 1, 20);
        war.take(0, 50, 3);
        war.retouch(0, 1, 0);
        missed(war, 0, 1, 32, 30, 60);
        war.retouch(0, 1, 40);
        missed(war, 0, 0, 42, 0, 40);
        war.retouch(0, 0, NONE);
        missed(war, 0, 1, 62, 0, 60);
        war.retouch(0, 4, 9);
        missed(war, 0, 1, 0, NONE, NONE);
        war.retouch(0, 4, NONE);
        war.thing(1, 0, 0, 1);
        war.take(0, 50, 0);
        missed(war, 0, 1, 1, NONE, NONE);
        check.due("a thing that there is not", war.missing(0, 2, 0), StereoWar.UNKNOWN);
        check.due("thing 6", war.missing(0, 6, 0), StereoWar.UNKNOWN);
        check.due("thing -1", war.missing(0, -1, 3), StereoWar.UNKNOWN);
        check.due("no picture", war.missing(1, 0, 3), StereoWar.UNKNOWN);
        check.due("what 3", war.missing(0, 0, 3), StereoWar.OUTSIDE);
        check.due("what -1", war.missing(0, 0, -1), StereoWar.OUTSIDE);
    }

    // Promises 17, 18 and 20 at the first and the last stand and minute
    private static void firstAndLast() {
        pinned(0, 0, 1);
        pinned(99, 0, 1);
        pinned(0, 99, -1);
        pinned(99, 99, 1);
    }

    /** One stands and one walks past just before the camera; a third is at the border of the picture. */
    private static void pinned(int stand, int minute, int pace) {
        StereoWar war = new StereoWar();
        int border = stand == 0 ? 60 : 0;
        war.thing(0, stand, 0, 20);
        war.thing(1, stand - pace * minute, pace, 20);
        war.thing(2, stand == 0 ? 30 : 69, 0, 20);
        war.take(0, stand, minute);
        check.due("one stand", war.stood(0, -1), 1);
        check.due("this stand", war.stood(0, 0), 100 * minute + stand);
        check.due("true", war.forged(0, 0), 0);
        missed(war, 0, 2, 1, border, border);
    }

    // Promise 19 in the first and the last minutes
    private static void pinnedMinutes() {
        StereoWar war = new StereoWar();
        war.thing(0, 50, 0, 20);
        war.thing(1, 0, 1, 20);
        war.take(0, 25, 0);
        war.take(1, 25, 1);
        war.take(2, 75, 98);
        war.take(3, 75, 99);
        for (int picture = 0; picture < 4; picture++) {
            for (int other = 0; other < 4; other++) {
                int due = picture == other ? StereoWar.UNKNOWN : picture < other ? 1 : 2;
                check.due("ahead(" + picture + ", " + other + ")", war.ahead(picture, other), due);
            }
        }
    }

    // Promises 17, 18 and 20: no camera is at stand 100
    private static void beyondTheLastStand() {
        StereoWar war = new StereoWar();
        war.thing(0, 99, 0, 20);
        war.thing(1, 98, 0, 20);
        war.take(0, 99, 0);
        war.retouch(0, 0, 29);
        war.retouch(0, 1, 28);
        check.due("as from 100", war.stood(0, -1), 0);
        check.due("both are forged", war.forged(0, 1), 3);
        missed(war, 0, 1, 0, NONE, NONE);
    }

    // Promises 17 to 20: no picture is taken in minute 100
    private static void beyondTheLastMinute() {
        StereoWar war = new StereoWar();
        war.thing(0, 50, 0, 20);
        war.thing(1, 0, 1, 20);
        war.thing(2, 75, 0, 20);
        war.take(0, 75, 99);
        war.take(1, 75, 99);
        check.due("the walker is a step farther", war.retouch(0, 1, 55), 54);
        check.due("as in minute 100", war.stood(0, -1), 0);
        check.due("ahead(0, 1)", war.ahead(0, 1), NONE);
        check.due("ahead(1, 0)", war.ahead(1, 0), NONE);
        check.due("the walker is forged", war.forged(0, 1), 2);
        missed(war, 0, 2, 0, NONE, NONE);
    }

    private static void missed(StereoWar war, int picture, int thing, int many, int least, int greatest) {
        check.due("how many", war.missing(picture, thing, 0), many);
        check.due("the least", war.missing(picture, thing, 1), least);
        check.due("the greatest", war.missing(picture, thing, 2), greatest);
    }
}
