/** "An object is used for at most 512 calls": the last of so many is answered as the first, of whatever call. */
public final class LimitTest {
    private static final Check check = new Check("LimitTest");
    private static final int CALLS = 512;

    private interface Asked {
        long of(StereoWar war, int time);
    }

    public static void main(String[] args) {
        questionsStay("stood", (war, time) -> war.stood(time % 10, -1));
        questionsStay("stood, the last", (war, time) -> war.stood(time % 10, 9999));
        questionsStay("forged", (war, time) -> war.forged(time % 10, time / 10 % 2));
        questionsStay("ahead", (war, time) -> war.ahead(time % 10, (time + 1) % 10));
        questionsStay("missing", (war, time) -> war.missing(time % 10, time % 6, time / 60 % 3));
        questionsStay("match", (war, time) -> war.match(1023, time % 11 - 1));
        questionsStay("eyes", (war, time) -> war.eyes());
        questionsStay("late", (war, time) -> war.late(time % 100, 0, 40, 8, 5, time % 4, 0));
        questionsStay("best", (war, time) -> war.best(time % 100, time % 2));
        questionsStay("year", (war, time) -> war.year(9999, 99, time % 4));
        questionsStay("judge", (war, time) -> war.judge(time % 4));
        questionsStay("kinds", (war, time) -> war.kinds(time % 6));
        refusedCallsStay();
        signs();
        changes();
        check.end();
    }

    /** An object is asked one question all the time: each answer is a new object's, and nothing is changed by it. */
    private static void questionsStay(String name, Asked asked) {
        StereoWar war = Scenes.FULL.make().get();
        int callsOfTheScene = 120;
        int callsOfEverything = 260;
        int calls = CALLS - callsOfTheScene - callsOfEverything;
        for (int time = 0; time < calls; time++) {
            check.due(name + ", time " + time, asked.of(war, time), asked.of(Scenes.FULL.make().get(), time));
        }
        check.fine(name + " changes something", Scenes.everything(war).equals(Scenes.everything(Scenes.FULL.make().get())));
    }

    private static void refusedCallsStay() {
        StereoWar war = new StereoWar();
        for (int call = 0; call < CALLS - 4; call += 4) {
            check.due("stood", war.stood(0, -1), StereoWar.UNKNOWN);
            check.due("restore", war.restore(call / 4 % 2), StereoWar.STATE);
            check.due("say", war.say(32), StereoWar.OUTSIDE);
            check.due("late", war.late(0, 0, 0, 0, 0, 0, 0), StereoWar.GONE + StereoWar.OUTSIDE);
        }
        check.due("things", war.told(1), 0);
        check.due("pictures", war.told(2), 0);
        check.due("focus", war.told(3), 20);
        check.due("the last call: signs", war.told(0), 0);
    }

    private static void signs() {
        StereoWar war = new StereoWar();
        for (int call = 1; call < CALLS; call++) {
            check.due("sign " + call, war.say(33 + call % 94), call <= 60 ? call : StereoWar.FULL);
        }
        check.due("the last call: signs", war.wipe(), 60);
    }

    /** 64 times eight calls. */
    private static void changes() {
        StereoWar war = new StereoWar();
        for (int time = 0; time < CALLS / 8; time++) {
            check.due("thing", war.thing(time % 6, time, 0, 20), 1);
            check.due("take", war.take(time % 10, time, 0), 1 << time % 6);
            check.due("image", war.image(time % 2), 1);
            check.due("leave", war.leave(time % 6), 0);
            check.due("burn", war.burn(time % 10), 0);
            check.due("restore", war.restore(time % 2), 1);
            check.due("leave again", war.leave(time % 6), 0);
            check.due("burn again", war.burn(time % 10), 0);
        }
    }
}
