/** Promises 22 to 25 at their borders: never late and always, far beyond the last stand and minute, no walk and all. */
public final class WalkBordersTest {
    private static final Check check = new Check("WalkBordersTest");
    private static final int NONE = StereoWar.NONE, UNKNOWN = StereoWar.UNKNOWN, OUTSIDE = StereoWar.OUTSIDE;
    private static final int LEAST = Integer.MIN_VALUE, GREATEST = Integer.MAX_VALUE;
    private static final long GONE_OUTSIDE = -1000000000000000002L;

    public static void main(String[] args) {
        lateWithNothing();
        lateNeverAndAlways();
        lateByEachNumberOfTimes();
        lateByEachNumberOfTenths();
        lateFractionsInLowestTerms();
        lateFromStandsBeyond();
        lateInMinutesBeyond();
        lateAsThingsAreNow();
        lateRefused();
        pastAlwaysAndNever();
        pastFirstAndLastMinute();
        pastRefused();
        bestOfNoneAndAll();
        bestOfTheLeast();
        bestRefused();
        yearOfFew();
        yearOfAll();
        yearDraws();
        yearRefused();
        check.end();
    }

    private static void fraction(StereoWar war, int stand, int minute, int step, int k, int t, int kind, long upper,
        long lower) {
        String call = "late(" + stand + ", " + minute + ", " + step + ", " + k + ", " + t + ", " + kind + ", ";
        check.due(call + "0)", war.late(stand, minute, step, k, t, kind, 0), upper);
        check.due(call + "1)", war.late(stand, minute, step, k, t, kind, 1), lower);
    }

    /** A thing goes one farther each minute, 50 from the camera's stand: its shift is step less the minutes. */
    private static StereoWar walker() {
        StereoWar war = new StereoWar();
        war.thing(0, 50, 1, 20);
        return war;
    }

    // no THINGS: "FLAT .. also if nothing is in both"; 0 is 0 by 1, all is 1 by 1
    private static void lateWithNothing() {
        for (int kind = 0; kind < 4; kind++) {
            StereoWar war = new StereoWar();
            for (int k = 0; k <= 8; k++) {
                for (int t = 0; t <= 10; t += 5) {
                    fraction(war, 0, 0, 1, k, t, kind, kind == 1 ? 1 : 0, 1);
                    fraction(war, 99, 99, 40, k, t, kind, kind == 1 ? 1 : 0, 1);
                }
            }
        }
    }

    // "k times (0 to 8 ..) with t tenths (0 to 10)"
    private static void lateNeverAndAlways() {
        StereoWar war = walker();
        for (int step = 1; step <= 8; step++) {
            for (int kind = 0; kind < 4; kind++) {
                fraction(war, 50, 0, step, 0, 10, kind, kind == 0 ? 1 : 0, 1);
                fraction(war, 50, 0, step, 8, 0, kind, kind == 0 ? 1 : 0, 1);
                fraction(war, 50, 0, step, step, 10, kind, kind == 1 ? 1 : 0, 1);
                fraction(war, 50, 0, step, step - 1, 10, kind, kind == 0 ? 1 : 0, 1);
                fraction(war, 50, 0, step, 8, 10, kind, kind == (step == 8 ? 1 : 2) ? 1 : 0, 1);
            }
        }
    }

    // a tenth each time: so often not late at all, by step 1 the pair is good then
    private static void lateByEachNumberOfTimes() {
        StereoWar war = walker();
        long nines = 1;
        long tens = 1;
        for (int k = 0; k <= 8; k++) {
            fraction(war, 50, 0, 1, k, 1, 0, nines, tens);
            fraction(war, 50, 0, 1, k, 9, 0, 1, tens);
            fraction(war, 50, 0, k < 1 ? 1 : k, k, 1, 2, 0, 1);
            nines *= 9;
            tens *= 10;
        }
        fraction(war, 50, 0, 1, 1, 1, 1, 1, 10);
        fraction(war, 50, 0, 1, 8, 1, 1, 4782969, 12500000);
        fraction(war, 50, 0, 8, 8, 1, 1, 1, 100000000);
        fraction(war, 50, 0, 7, 8, 9, 2, 43046721, 100000000);
        fraction(war, 50, 0, 1, 8, 9, 2, 99999927, 100000000);
    }

    // once, by step 1: late by t tenths the pair is flat
    private static void lateByEachNumberOfTenths() {
        StereoWar war = walker();
        long[] upper = {0, 1, 1, 3, 2, 1, 3, 7, 4, 9, 1};
        long[] lower = {1, 10, 5, 10, 5, 2, 5, 10, 5, 10, 1};
        for (int t = 0; t <= 10; t++) {
            fraction(war, 50, 0, 1, 1, t, 1, upper[t], lower[t]);
            fraction(war, 50, 0, 1, 1, t, 0, upper[10 - t], lower[10 - t]);
            fraction(war, 50, 0, 1, 1, t, 3, 0, 1);
        }
    }

    private static void lateFractionsInLowestTerms() {
        StereoWar war = walker();
        fraction(war, 50, 0, 1, 8, 5, 0, 1, 256);
        fraction(war, 50, 0, 1, 8, 5, 1, 1, 32);
        fraction(war, 50, 0, 1, 8, 5, 2, 247, 256);
        fraction(war, 50, 0, 4, 8, 5, 1, 35, 128);
        fraction(war, 50, 0, 1, 8, 2, 0, 65536, 390625);
        fraction(war, 50, 0, 8, 8, 2, 1, 1, 390625);
        fraction(war, 50, 0, 30, 8, 5, 0, 1, 1);
        fraction(war, 50, 0, 40, 8, 5, 1, 1, 1);
    }

    // "a STAND so much farther (1 to 40; beyond 99, too)"
    private static void lateFromStandsBeyond() {
        StereoWar war = new StereoWar();
        war.thing(0, 99, 0, 20);
        for (int step = 1; step <= 40; step++) {
            fraction(war, 99, 0, step, 0, 0, 0, step <= 30 ? 1 : 0, 1);
            fraction(war, 99, 0, step, 0, 0, 1, step <= 30 ? 0 : 1, 1);
        }
        war.focus(10);
        fraction(war, 99, 99, 40, 8, 10, 0, 1, 1);
        fraction(war, 60, 99, 40, 8, 10, 0, 1, 1);
        war.thing(0, 0, 0, 20);
        fraction(war, 0, 0, 1, 0, 0, 1, 1, 1);
        fraction(war, 0, 0, 2, 0, 0, 0, 1, 1);
    }

    // "a minute later": 99 and 8 are beyond the last minute of a STAND
    private static void lateInMinutesBeyond() {
        StereoWar war = new StereoWar();
        war.thing(0, 0, 1, 20);
        for (int k = 0; k <= 8; k++) {
            fraction(war, 99, 99, 4, k, 10, 0, k < 4 ? 1 : 0, 1);
            fraction(war, 99, 99, 4, k, 10, 1, k == 4 ? 1 : 0, 1);
            fraction(war, 99, 99, 4, k, 10, 2, k > 4 ? 1 : 0, 1);
        }
        war.thing(1, 99, 0, 20);
        fraction(war, 99, 99, 1, 8, 10, 3, 1, 1);
        fraction(war, 99, 99, 1, 1, 10, 0, 1, 1);
        war.leave(0);
        war.leave(1);
        war.thing(2, 0, 9, 1);
        fraction(war, 99, 11, 9, 1, 10, 1, 1, 1);
        fraction(war, 99, 11, 10, 1, 10, 0, 1, 1);
        fraction(war, 99, 11, 8, 1, 10, 2, 1, 1);
    }

    // "(as THINGS are now, nothing RETOUCHED)"
    private static void lateAsThingsAreNow() {
        StereoWar war = walker();
        war.take(0, 50, 0);
        war.take(1, 51, 0);
        war.retouch(0, 0, 0);
        war.retouch(1, 5, 60);
        fraction(war, 50, 0, 1, 0, 0, 0, 1, 1);
        check.due("the picture stays retouched", war.told(100), 0);
        check.due("the other one, too", war.told(205), 60);
        check.due("no picture more", war.told(2), 3);
        war.thing(5, 50, 9, 20);
        fraction(war, 50, 0, 2, 1, 10, 3, 1, 1);
        war.focus(1);
        fraction(war, 50, 0, 2, 1, 10, 1, 1, 1);
        war.leave(5);
        war.leave(0);
        fraction(war, 50, 0, 2, 1, 10, 1, 1, 1);
    }

    // "refused with GONE and the refusal", for each part
    private static void lateRefused() {
        int[][] beyond = {{-1, 100}, {-1, 100}, {0, 41}, {-1, 9}, {-1, 11}, {-1, 4}, {-1, 2}};
        for (int[] good : new int[][] {{0, 0, 1, 0, 0, 0, 0}, {99, 99, 40, 8, 10, 3, 1}}) {
            StereoWar war = walker();
            check.fine("borders are refused", late(war, good) >= 0);
            for (int i = 0; i < 7; i++) {
                for (int number : new int[] {beyond[i][0], beyond[i][1], LEAST, GREATEST}) {
                    int[] n = good.clone();
                    n[i] = number;
                    check.due("number " + i + " of late is " + number, late(war, n), GONE_OUTSIDE);
                    n[(i + 1) % 7] = beyond[(i + 1) % 7][0];
                    check.due("number " + i + " and the next one", late(war, n), GONE_OUTSIDE);
                }
            }
        }
        check.due("GONE and OUTSIDE", StereoWar.GONE + OUTSIDE, GONE_OUTSIDE);
    }

    private static long late(StereoWar war, int[] n) {
        return war.late(n[0], n[1], n[2], n[3], n[4], n[5], n[6]);
    }

    private static void pastIs(String what, StereoWar war, int stand, int many, int first) {
        check.due(what + ": how many", war.past(0, stand, 0), many);
        check.due(what + ": the first", war.past(0, stand, 1), first);
    }

    // "how many minutes (of 0 to 99) .. the first such; NONE"
    private static void pastAlwaysAndNever() {
        StereoWar war = new StereoWar();
        war.thing(0, 50, 0, 20);
        pastIs("it stands", war, 50, 100, 0);
        pastIs("at the last column", war, 20, 100, 0);
        pastIs("beyond the last column", war, 19, 0, NONE);
        pastIs("at column 0", war, 80, 100, 0);
        pastIs("ahead of column 0", war, 81, 0, NONE);
        pastIs("stand 0", war, 0, 0, NONE);
        pastIs("stand 99", war, 99, 0, NONE);
        war.thing(0, 99, 9, 1);
        pastIs("it goes away", war, 0, 0, NONE);
        pastIs("it goes away at once", war, 99, 1, 0);
        war.focus(1);
        war.thing(0, 50, 0, 1);
        pastIs("focus 1", war, 50, 100, 0);
        pastIs("focus 1, at the last column", war, 20, 100, 0);
        pastIs("focus 1, ahead of column 0", war, 81, 0, NONE);
    }

    private static void pastFirstAndLastMinute() {
        StereoWar war = new StereoWar();
        war.thing(0, 0, 1, 20);
        pastIs("from minute 69 on", war, 99, 31, 69);
        pastIs("up to minute 30", war, 0, 31, 0);
        war.thing(0, 0, 1, 1);
        pastIs("in minutes 98 and 99 alone, or 100", war, 99, 2, 98);
        war.focus(40);
        pastIs("in minute 99 alone", war, 99, 1, 99);
        pastIs("in minute 0 alone", war, 0, 1, 0);
        war.thing(0, 99, -1, 1);
        pastIs("back in minute 99 alone", war, 0, 1, 99);
        pastIs("back in minute 0 alone", war, 99, 1, 0);
        war.thing(0, 9, -9, 1);
        pastIs("over stand 0 in minute 1", war, 0, 1, 1);
        pastIs("never over stand 1", war, 1, 0, NONE);
        for (int thing = 1; thing < 6; thing++) {
            check.due("a thing that there is not", war.past(thing, 0, 0), UNKNOWN);
            war.thing(thing, 10 * thing, 0, 1);
            check.due("how many for thing " + thing, war.past(thing, 10 * thing, 0), 100);
            check.due("the first for thing " + thing, war.past(thing, 10 * thing, 1), 0);
        }
    }

    private static void pastRefused() {
        StereoWar war = walker();
        for (int number : new int[] {-1, 100, LEAST, GREATEST}) {
            check.due("stand " + number, war.past(0, number, 0), OUTSIDE);
            check.due("stand " + number + ", no such what", war.past(0, number, 2), OUTSIDE);
            check.due("stand " + number + ", no such thing", war.past(1, number, 0), UNKNOWN);
        }
        for (int what : new int[] {-1, 2, LEAST, GREATEST}) {
            check.due("what " + what, war.past(0, 0, what), OUTSIDE);
            check.due("what " + what + ", no such thing", war.past(5, 99, what), UNKNOWN);
        }
        for (int thing : new int[] {-1, 1, 5, 6, LEAST, GREATEST}) {
            check.due("thing " + thing, war.past(thing, 0, 0), UNKNOWN);
        }
    }

    // "the STAND (0 to 99) from which most THINGS are shown in minute m (the least); how many"
    private static void bestOfNoneAndAll() {
        StereoWar war = new StereoWar();
        for (int minute = 0; minute < 100; minute += 33) {
            check.due("no things: the least stand", war.best(minute, 0), 0);
            check.due("no things: how many", war.best(minute, 1), 0);
        }
        for (int thing = 0; thing < 6; thing++) {
            war.thing(thing, 39 + 12 * thing, 0, 20);
            check.due("up to thing " + thing, war.best(99, 0), Math.max(9, 9 + 12 * thing));
            check.due("how many", war.best(99, 1), thing + 1);
        }
        for (int thing = 0; thing < 6; thing++) {
            war.thing(thing, 0, -9, 1);
        }
        check.due("all over stand 0 in minute 0", war.best(0, 0), 0);
        check.due("six", war.best(0, 1), 6);
        check.due("none in minute 1", war.best(1, 0), 0);
        check.due("no one", war.best(1, 1), 0);
        check.due("none in minute 99", war.best(99, 1), 0);
    }

    private static void bestOfTheLeast() {
        StereoWar war = new StereoWar();
        war.focus(40);
        for (int stand = 99; stand >= 0; stand--) {
            war.thing(0, stand, 0, 1);
            check.due("the one stand", war.best(99, 0), stand);
            check.due("one", war.best(0, 1), 1);
        }
        war.thing(1, 99, 0, 1);
        check.due("one from 0, one from 99: the least", war.best(0, 0), 0);
        war.thing(2, 99, 0, 1);
        check.due("one from 0, two from 99", war.best(0, 0), 99);
        check.due("two", war.best(0, 1), 2);
        war.thing(3, 98, 0, 1);
        war.thing(4, 98, 1, 1);
        check.due("two from 98, two from 99: the least", war.best(0, 0), 98);
        check.due("a minute later three from 99", war.best(1, 0), 99);
        check.due("three", war.best(1, 1), 3);
    }

    private static void bestRefused() {
        StereoWar war = walker();
        for (int number : new int[] {-1, 100, LEAST, GREATEST}) {
            check.due("minute " + number, war.best(number, 0), OUTSIDE);
            check.due("minute " + number + ", no such what", war.best(number, 2), OUTSIDE);
        }
        for (int what : new int[] {-1, 2, LEAST, GREATEST}) {
            check.due("what " + what, war.best(0, what), OUTSIDE);
        }
        check.due("minute 0", war.best(0, 1), 1);
        check.due("minute 99", war.best(99, 1), 0);
    }

    // "if there are both, not one"
    private static void yearOfFew() {
        for (int picture = 0; picture < 10; picture++) {
            StereoWar war = new StereoWar();
            war.take(picture, 0, 0);
            for (int kind = 0; kind < 4; kind++) {
                check.due("one picture alone", war.year(77, 99, kind), 0);
            }
        }
        StereoWar none = new StereoWar();
        for (int kind = 0; kind < 4; kind++) {
            check.due("no pictures", none.year(9999, 99, kind), 0);
        }
    }

    /** Of m viewings by a seed so many whose left one and right one are not one. */
    private static int viewed(long seed, int m) {
        long x = seed;
        int viewed = 0;
        for (int viewing = 0; viewing < m; viewing++) {
            x = Math.floorMod(75 * x + 74, 65537L);
            viewed += x % 10 == x / 10 % 10 ? 0 : 1;
        }
        return viewed;
    }

    // all PICTURES, "m viewings (1 to 99)", "a seed (0 to 9999)"
    private static void yearOfAll() {
        for (int seed : new int[] {0, 1, 4999, 9998, 9999}) {
            StereoWar war = new StereoWar();
            for (int picture = 0; picture < 10; picture++) {
                war.take(picture, 0, 0);
            }
            for (int m : new int[] {1, 2, 50, 98, 99}) {
                check.due("seed " + seed + ", m " + m + ": all flat", war.year(seed, m, 1), viewed(seed, m));
                check.due("none good", war.year(seed, m, 0), 0);
            }
            for (int picture = 0; picture < 10; picture++) {
                war.retouch(picture, 3, 6 * picture);
            }
            for (int m : new int[] {1, 2, 50, 98, 99}) {
                int both = war.year(seed, m, 0) + war.year(seed, m, 2);
                check.due("seed " + seed + ", m " + m + ": good or turned", both, viewed(seed, m));
                check.due("none flat", war.year(seed, m, 1), 0);
                check.due("none confused", war.year(seed, m, 3), 0);
            }
        }
    }

    // "x, the seed at first, becomes (75 x and 74) left over by 65537 ahead of each": seed 873 draws 65549, that is 12
    private static void yearDraws() {
        StereoWar war = new StereoWar();
        for (int picture = 0; picture < 10; picture++) {
            war.take(picture, 0, 0);
        }
        war.retouch(2, 0, 1);
        war.retouch(1, 0, 0);
        check.due("seed 873: 2 is left, 1 is right", war.year(873, 1, 0), 1);
        check.due("so it is not turned", war.year(873, 1, 2), 0);
        check.due("seed 872: 65474, 4 and 7 are flat", war.year(872, 1, 1), 1);
        war.burn(1);
        check.due("seed 873, without the right one", war.year(873, 1, 0), 0);
        war.take(1, 0, 0);
        war.burn(2);
        check.due("seed 873, without the left one", war.year(873, 1, 1), 0);
        check.due("seed 0: 74", war.year(0, 1, 1), 1);
        check.due("seed 9999: 29092, without 2", war.year(9999, 1, 1), 0);
    }

    private static void yearRefused() {
        StereoWar war = Scenes.FULL.make().get();
        int[][] beyond = {{-1, 10000, LEAST, GREATEST}, {0, 100, -1, LEAST, GREATEST}, {-1, 4, LEAST, GREATEST}};
        for (int seed : beyond[0]) {
            check.due("seed " + seed, war.year(seed, 1, 0), OUTSIDE);
            for (int m : beyond[1]) {
                check.due("seed " + seed + ", m " + m, war.year(seed, m, 0), OUTSIDE);
                check.due("m " + m, war.year(9999, m, 3), OUTSIDE);
            }
            for (int kind : beyond[2]) {
                check.due("seed " + seed + ", kind " + kind, war.year(seed, 99, kind), OUTSIDE);
                check.due("kind " + kind, war.year(0, 99, kind), OUTSIDE);
            }
        }
    }
}
