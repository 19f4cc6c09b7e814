/** Promises 17 to 20 at their borders: no stand, one, all; nothing forged, all; no minute, the first, the last. */
public final class StandBordersTest {
    private static final Check check = new Check("StandBordersTest");
    private static final int NONE = StereoWar.NONE, UNKNOWN = StereoWar.UNKNOWN, OUTSIDE = StereoWar.OUTSIDE;
    private static final int LEAST = Integer.MIN_VALUE, GREATEST = Integer.MAX_VALUE;

    public static void main(String[] args) {
        stoodAnywhere();
        stoodNowhere();
        stoodOnce();
        stoodRises();
        stoodByWhatThereIsNow();
        notThereMustNotBeShown();
        forgedFromNoneToAll();
        forgedAreLeastAsBits();
        forgedBeyond();
        aheadByOneMinute();
        aheadWithOneMinuteInBoth();
        aheadKnowsNoMinuteBeyond();
        aheadOfOneThatCouldNotBe();
        missingNowhere();
        missingOnce();
        missingFromFirstToLastColumn();
        missingNotShown();
        missingDoesNotAskThePicture();
        check.end();
    }

    /** One thing stands at 50 and one at 0 goes one farther each minute: a picture of both tells all. */
    private static StereoWar clock() {
        StereoWar war = new StereoWar();
        war.thing(0, 50, 0, 20);
        war.thing(1, 0, 1, 20);
        return war;
    }

    // no THINGS: all 100 STANDS in all 100 minutes, "100 times the minute and the STAND; rising"
    private static void stoodAnywhere() {
        StereoWar war = new StereoWar();
        war.take(0, 99, 99);
        war.take(9, 0, 0);
        for (int picture = 0; picture < 10; picture += 9) {
            check.due("all", war.stood(picture, -1), 10000);
            for (int i : new int[] {0, 1, 99, 100, 101, 5050, 9899, 9900, 9998, 9999}) {
                check.due("stood(" + i + ") of all", war.stood(picture, i), i);
            }
            for (int i : new int[] {10000, 10001, 65536, GREATEST, -2, -3, -10000, LEAST, LEAST + 1}) {
                check.due("stood(" + i + ") of all", war.stood(picture, i), NONE);
            }
        }
        for (int thing = 0; thing < 6; thing++) {
            war.thing(thing, 0, -9, 1);
        }
        check.due("things, none of which was shown", war.stood(0, 9999), NONE);
        check.due("stands 0 and 1 in minute 0 show them", war.stood(0, -1), 9998);
        check.due("the first", war.stood(0, 0), 2);
        check.due("the last", war.stood(0, 9997), 9999);
    }

    private static void stoodNowhere() {
        StereoWar war = clock();
        war.take(3, 50, 50);
        war.retouch(3, 0, 0);
        war.retouch(3, 1, 60);
        check.due("how many", war.stood(3, -1), 0);
        for (int i : new int[] {0, 1, 9999, GREATEST, -2, LEAST}) {
            check.due("stood(" + i + ") of none", war.stood(3, i), NONE);
        }
    }

    private static void stoodOnce() {
        StereoWar war = clock();
        for (int minute = 0; minute < 100; minute++) {
            int stand = Math.min(79, Math.max(21, minute));
            war.take(0, stand, minute);
            check.due("how many, minute " + minute, war.stood(0, -1), 1);
            check.due("the one, minute " + minute, war.stood(0, 0), 100 * minute + stand);
            check.due("behind it", war.stood(0, 1), NONE);
            check.due("below -1", war.stood(0, -2), NONE);
        }
    }

    private static void stoodRises() {
        StereoWar war = new StereoWar();
        war.thing(5, 40, 0, 1);
        war.take(0, 40, 0);
        check.due("each minute from one stand", war.stood(0, -1), 100);
        for (int i = 0; i < 100; i++) {
            check.due("stood(" + i + ")", war.stood(0, i), 100 * i + 40);
        }
        war.thing(5, 99, -1, 1);
        for (int i = 0; i < 100; i++) {
            check.due("walking, stood(" + i + ")", war.stood(0, i), 100 * i + 99 - i);
        }
        check.due("walking, behind", war.stood(0, 100), NONE);
    }

    // "by the THINGS that there are now, PLACES, PACES, DEEP of now"
    private static void stoodByWhatThereIsNow() {
        StereoWar war = new StereoWar();
        war.focus(40);
        war.thing(0, 50, 0, 2);
        war.take(0, 49, 0);
        check.due("at 50", war.stood(0, 0), 49);
        check.due("for each minute", war.stood(0, -1), 100);
        war.thing(0, 99, 0, 2);
        check.due("another place", war.stood(0, 0), 98);
        war.thing(0, 50, 1, 2);
        check.due("another pace", war.stood(0, 1), 150);
        check.due("another pace, up to stand 99", war.stood(0, -1), 51);
        war.thing(0, 50, 0, 4);
        check.due("another deep", war.stood(0, 0), 48);
        war.focus(20);
        check.due("another focus", war.stood(0, 0), 46);
        war.leave(0);
        check.due("no more", war.stood(0, -1), 0);
    }

    // "(those that are not there must not be shown)"
    private static void notThereMustNotBeShown() {
        for (int thing = 0; thing < 6; thing++) {
            StereoWar war = new StereoWar();
            war.take(0, 0, 0);
            for (int column : new int[] {0, 60}) {
                war.retouch(0, thing, column);
                check.due("how many", war.stood(0, -1), 0);
                check.due("the first", war.stood(0, 0), NONE);
                check.due("how many are forged", war.forged(0, 0), 1);
                check.due("which", war.forged(0, 1), 1 << thing);
                war.thing(5 - thing, 50, 0, 1);
                check.due("columns of another one", war.missing(0, 5 - thing, 0), 0);
                war.leave(5 - thing);
            }
            war.retouch(0, thing, NONE);
            check.due("how many again", war.stood(0, -1), 10000);
        }
    }

    // "the fewest THINGS (such as there are not, but are shown in it, too)": none to all six
    private static void forgedFromNoneToAll() {
        StereoWar blank = new StereoWar();
        blank.take(9, 99, 99);
        check.due("nothing: how many", blank.forged(9, 0), 0);
        check.due("nothing: which", blank.forged(9, 1), 0);
        for (int thing = 0; thing < 6; thing++) {
            blank.retouch(9, thing, 10 * thing);
            check.due("not there, so many", blank.forged(9, 0), thing + 1);
            check.due("not there, which", blank.forged(9, 1), (2 << thing) - 1);
        }
        StereoWar war = new StereoWar();
        for (int thing = 0; thing < 6; thing++) {
            war.thing(thing, 90, 0, 20);
        }
        war.take(0, 90, 0);
        check.due("true: how many", war.forged(0, 0), 0);
        check.due("true: which", war.forged(0, 1), 0);
        war.retouch(0, 5, NONE);
        check.due("one is not shown", war.forged(0, 1), 32);
        war.retouch(0, 0, NONE);
        check.due("the first and the last are not shown", war.forged(0, 1), 33);
        war.retouch(0, 1, NONE);
        check.due("three of six", war.forged(0, 0), 3);
        check.due("those that are shown, as less bits", war.forged(0, 1), 28);
        for (int thing = 0; thing < 6; thing++) {
            war.retouch(0, thing, 20);
        }
        check.due("all from 100: none fits", war.forged(0, 1), 63);
        check.due("six", war.forged(0, 0), 6);
        for (int thing = 0; thing < 6; thing++) {
            war.retouch(0, thing, NONE);
        }
        check.due("none shown is as from far", war.forged(0, 0), 0);
    }

    private static void forgedAreLeastAsBits() {
        for (int one = 0; one < 6; one++) {
            for (int other = one + 1; other < 6; other++) {
                StereoWar war = new StereoWar();
                war.thing(one, 50, 0, 20);
                war.thing(other, 50, 0, 20);
                war.take(0, 50, 0);
                war.retouch(0, one, 31);
                check.due("the less of both", war.forged(0, 1), 1 << one);
                war.retouch(0, one, 30);
                war.retouch(0, other, 31);
                check.due("the less of both, by the greater one", war.forged(0, 1), 1 << one);
                check.due("one", war.forged(0, 0), 1);
            }
        }
    }

    private static void forgedBeyond() {
        StereoWar war = Scenes.FULL.make().get();
        for (int what : new int[] {-1, 2, LEAST, GREATEST}) {
            check.due("forged(0, " + what + ")", war.forged(0, what), OUTSIDE);
            check.due("forged(10, " + what + ")", war.forged(10, what), UNKNOWN);
            check.due("forged(-1, " + what + ")", war.forged(-1, what), UNKNOWN);
        }
    }

    // "1, if all minutes of the one .. are ahead of all of the other one's; 2, if all are behind"
    private static void aheadByOneMinute() {
        StereoWar war = clock();
        for (int minute = 0; minute < 99; minute++) {
            war.take(0, Math.min(79, Math.max(21, minute)), minute);
            war.take(1, Math.min(79, Math.max(21, minute + 1)), minute + 1);
            check.due("minute " + minute, war.ahead(0, 1), 1);
            check.due("minute " + minute + ", the other way round", war.ahead(1, 0), 2);
        }
        war.take(0, 21, 0);
        check.due("first and last", war.ahead(0, 1), 1);
        check.due("last and first", war.ahead(1, 0), 2);
    }

    // "0 else": one minute is of both; all minutes are of both; the one's are around the other's
    private static void aheadWithOneMinuteInBoth() {
        StereoWar war = clock();
        war.take(0, 50, 0);
        check.due("out of sight but in minutes 20 to 80", war.told(101), NONE);
        war.take(1, 21, 0);
        war.take(2, 79, 99);
        war.take(3, 50, 20);
        war.take(4, 50, 80);
        check.due("in minutes 0 to 19 and 81 to 99", war.stood(0, -1), 39);
        check.due("with minute 0", war.ahead(0, 1), 0);
        check.due("minute 0 with it", war.ahead(1, 0), 0);
        check.due("with minute 99", war.ahead(0, 2), 0);
        check.due("minute 99 with it", war.ahead(2, 0), 0);
        check.due("around minute 20", war.ahead(0, 3), 0);
        check.due("minute 80 within it", war.ahead(4, 0), 0);
        check.due("20 and 80", war.ahead(3, 4), 1);
        war.take(5, 49, 80);
        check.due("the same minute", war.ahead(4, 5), 0);
        war.take(6, 80, 0);
        check.due("0 to 49 and 111 ..", war.stood(6, -1), 50);
        check.due("0 to 49 and 80", war.ahead(6, 4), 1);
        check.due("80 and 0 to 49", war.ahead(4, 6), 2);
        war.take(7, 79, 49);
        check.due("0 to 49 and 49", war.ahead(6, 7), 0);
        war.take(7, 78, 50);
        check.due("0 to 49 and 50", war.ahead(6, 7), 1);
        check.due("50 and 0 to 49", war.ahead(7, 6), 2);
    }

    // from 69 the walker is out of sight in minutes 0 to 38, and would be again in minute 100
    private static void aheadKnowsNoMinuteBeyond() {
        StereoWar war = clock();
        war.take(0, 69, 0);
        war.take(1, 69, 39);
        war.take(2, 69, 99);
        check.due("minutes 0 to 38", war.stood(0, -1), 39);
        check.due("the last of them", war.stood(0, 38), 3869);
        check.due("0 to 38 and 39", war.ahead(0, 1), 1);
        check.due("0 to 38 and 99", war.ahead(0, 2), 1);
        check.due("39 and 0 to 38", war.ahead(1, 0), 2);
        check.due("99 and 0 to 38", war.ahead(2, 0), 2);
    }

    // "NONE: one could not be TAKEN"
    private static void aheadOfOneThatCouldNotBe() {
        StereoWar war = clock();
        war.take(0, 50, 30);
        war.take(9, 50, 40);
        check.due("both could be", war.ahead(0, 9), 1);
        int before = war.retouch(0, 5, 60);
        check.due("the one could not", war.ahead(0, 9), NONE);
        check.due("the other one could not", war.ahead(9, 0), NONE);
        war.retouch(9, 5, 60);
        check.due("neither could", war.ahead(0, 9), NONE);
        war.retouch(0, 5, before);
        check.due("the last could not", war.ahead(0, 9), NONE);
        check.due("one, that could not", war.ahead(9, 9), UNKNOWN);
        check.due("one that there is not, ahead of one that could not", war.ahead(9, 1), UNKNOWN);
        check.due("picture 10", war.ahead(9, 10), UNKNOWN);
        check.due("picture -1", war.ahead(-1, 9), UNKNOWN);
    }

    private static void missed(String what, StereoWar war, int thing, int many, int least, int greatest) {
        check.due(what + ": how many", war.missing(0, thing, 0), many);
        check.due(what + ": the least", war.missing(0, thing, 1), least);
        check.due(what + ": the greatest", war.missing(0, thing, 2), greatest);
    }

    private static void missingNowhere() {
        StereoWar war = clock();
        war.thing(5, 50, 0, 20);
        war.take(0, 50, 50);
        war.retouch(0, 0, 0);
        war.retouch(0, 1, 60);
        missed("the others are as from nowhere", war, 5, 0, NONE, NONE);
        war.retouch(0, 5, 0);
        missed("whatever it is itself", war, 5, 0, NONE, NONE);
    }

    private static void missingOnce() {
        StereoWar war = clock();
        for (int place = 0; place < 100; place++) {
            war.thing(5, place, 0, 20);
            war.take(0, 50, 99 - place < 20 || 99 - place > 80 ? 50 : 99 - place);
            int column = place - 20;
            if (column < 0 || column > 60) {
                missed("place " + place, war, 5, 1, NONE, NONE);
            } else {
                missed("place " + place, war, 5, 1, column, column);
            }
        }
    }

    // no other THING: from all STANDS in all minutes, columns 0 to 60 and not shown
    private static void missingFromFirstToLastColumn() {
        for (int thing = 0; thing < 6; thing++) {
            StereoWar war = new StereoWar();
            war.take(0, 0, 0);
            war.thing(thing, 50, 0, 20);
            missed("all columns", war, thing, 62, 0, 60);
            war.thing(thing, 0, 0, 20);
            missed("up to the middle", war, thing, 32, 0, 30);
            war.thing(thing, 99, 0, 20);
            missed("from the middle on", war, thing, 32, 30, 60);
            war.thing(thing, 0, -1, 20);
            missed("from minute 0 and stand 0 on", war, thing, 32, 0, 30);
            war.thing(thing, 0, 1, 20);
            missed("all columns by walking", war, thing, 62, 0, 60);
            war.focus(1);
            war.thing(thing, 50, 0, 20);
            missed("always shown", war, thing, 5, 28, 32);
            war.thing(thing, 99, 0, 20);
            missed("4.95 by stand 0, cut", war, thing, 5, 30, 34);
            war.focus(40);
            war.thing(thing, 50, 0, 1);
            missed("shown from one stand alone", war, thing, 2, 30, 30);
        }
    }

    // "(not shown is one, too)", "(of those that are shown; NONE)"
    private static void missingNotShown() {
        StereoWar war = new StereoWar();
        war.thing(0, 0, 0, 1);
        war.thing(1, 99, 0, 1);
        war.take(0, 0, 0);
        missed("shown never", war, 1, 1, NONE, NONE);
        missed("shown once", war, 0, 3, 10, 30);
        war.retouch(0, 0, NONE);
        missed("shown once and not, if the other one is not", war, 1, 3, 30, 50);
    }

    private static void missingDoesNotAskThePicture() {
        StereoWar war = clock();
        war.take(0, 50, 40);
        missed("by the standing one", war, 1, 62, 0, 60);
        war.retouch(0, 1, NONE);
        missed("not shown in it", war, 1, 62, 0, 60);
        war.retouch(0, 1, 59);
        missed("at another column", war, 1, 62, 0, 60);
        war.leave(1);
        check.due("it is not there", war.missing(0, 1, 0), UNKNOWN);
        check.due("it is not there, ahead of outside", war.missing(0, 1, 3), UNKNOWN);
        missed("it is not there, and is shown", war, 0, 0, NONE, NONE);
    }
}
