/** Promise 22: late shutters by chance. */
public final class LateTest {
    private static final Check check = new Check("LateTest");
    private static final long REFUSED = StereoWar.GONE + StereoWar.OUTSIDE;

    public static void main(String[] args) {
        chances();
        farAndLate();
        refused();
        check.end();
    }

    private static void fraction(String call, long upper, long upperDue, long lower, long lowerDue) {
        check.due(call + ", upper", upper, upperDue);
        check.due(call + ", lower", lower, lowerDue);
    }

    private static void late(StereoWar war, int k, int t, int kind, long upper, long lower) {
        fraction("k " + k + ", t " + t + ", kind " + kind,
            war.late(50, 0, 2, k, t, kind, 0), upper, war.late(50, 0, 2, k, t, kind, 1), lower);
    }

    // The shift of the one thing is 2 less the minutes that it is late.
    private static void chances() {
        StereoWar war = new StereoWar();
        war.thing(0, 50, 1, 20);
        late(war, 0, 5, 0, 1, 1);
        late(war, 0, 5, 1, 0, 1);
        late(war, 1, 10, 0, 1, 1);
        late(war, 2, 10, 1, 1, 1);
        late(war, 3, 10, 2, 1, 1);
        late(war, 3, 0, 2, 0, 1);
        late(war, 2, 3, 0, 91, 100);
        late(war, 2, 3, 1, 9, 100);
        late(war, 4, 5, 0, 5, 16);
        late(war, 4, 5, 1, 3, 8);
        late(war, 4, 5, 2, 5, 16);
        late(war, 4, 5, 3, 0, 1);
        late(war, 8, 1, 0, 81310473, 100000000);
        war.thing(1, 50, 0, 20);
        late(war, 4, 5, 0, 11, 16);
        late(war, 4, 5, 1, 0, 1);
        late(war, 4, 5, 3, 5, 16);
        war.take(0, 50, 0);
        war.retouch(0, 1, 2);
        late(war, 4, 5, 3, 5, 16);
    }

    // Beyond stand 99 and minute 99
    private static void farAndLate() {
        StereoWar war = new StereoWar();
        war.thing(0, 99, 0, 20);
        check.due("stand 129", war.late(99, 0, 30, 0, 0, 0, 0), 1);
        check.due("stand 130: out of sight, flat", war.late(99, 0, 31, 0, 0, 1, 0), 1);
        war.thing(0, 0, 1, 20);
        check.due("minute 103", war.late(99, 99, 4, 4, 10, 1, 0), 1);
        check.due("minute 107", war.late(99, 99, 7, 8, 10, 2, 0), 1);
        StereoWar nothing = new StereoWar();
        check.due("nothing is flat", nothing.late(0, 0, 1, 8, 7, 1, 1), 1);
        check.due("nothing is not good", nothing.late(0, 0, 1, 8, 7, 0, 0), 0);
    }

    private static void refused() {
        StereoWar war = new StereoWar();
        check.due("all least", war.late(0, 0, 1, 0, 0, 0, 0), 0);
        check.due("all most", war.late(99, 99, 40, 8, 10, 3, 1), 1);
        check.due("stand -1", war.late(-1, 0, 1, 0, 0, 0, 0), REFUSED);
        check.due("stand 100", war.late(100, 0, 1, 0, 0, 0, 0), REFUSED);
        check.due("minute -1", war.late(0, -1, 1, 0, 0, 0, 0), REFUSED);
        check.due("minute 100", war.late(0, 100, 1, 0, 0, 0, 0), REFUSED);
        check.due("step 0", war.late(0, 0, 0, 0, 0, 0, 0), REFUSED);
        check.due("step 41", war.late(0, 0, 41, 0, 0, 0, 0), REFUSED);
        check.due("k -1", war.late(0, 0, 1, -1, 0, 0, 0), REFUSED);
        check.due("k 9", war.late(0, 0, 1, 9, 0, 0, 0), REFUSED);
        check.due("t -1", war.late(0, 0, 1, 0, -1, 0, 0), REFUSED);
        check.due("t 11", war.late(0, 0, 1, 0, 11, 0, 0), REFUSED);
        check.due("kind -1", war.late(0, 0, 1, 0, 0, -1, 0), REFUSED);
        check.due("kind 4", war.late(0, 0, 1, 0, 0, 4, 0), REFUSED);
        check.due("part -1", war.late(0, 0, 1, 0, 0, 0, -1), REFUSED);
        check.due("part 2", war.late(0, 0, 1, 0, 0, 0, 2), REFUSED);
        check.due("the refusal", REFUSED, -1000000000000000002L);
    }
}
