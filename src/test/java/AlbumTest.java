/** Promises 8 to 12: the pad, the fault, judged albums, kinds of their pairs. */
public final class AlbumTest {
    private static final Check check = new Check("AlbumTest");

    public static void main(String[] args) {
        say();
        wipe();
        fault();
        judge();
        judgeRefused();
        kinds();
        check.end();
    }

    // Promise 8
    private static void say() {
        StereoWar war = new StereoWar();
        check.due("say(33)", war.say(33), 1);
        check.due("say(126)", war.say(126), 2);
        check.due("say(32)", war.say(32), StereoWar.OUTSIDE);
        check.due("say(127)", war.say(127), StereoWar.OUTSIDE);
        for (int count = 3; count <= 60; count++) {
            check.due("sign " + count, war.say('a'), count);
        }
        check.due("full", war.say('a'), StereoWar.FULL);
        check.due("outside ahead of full", war.say(32), StereoWar.OUTSIDE);
        check.due("signs", war.told(0), 60);
    }

    // Promise 9
    private static void wipe() {
        StereoWar war = new StereoWar();
        check.due("nothing", war.wipe(), 0);
        Check.album(war, "ab/");
        check.due("three", war.wipe(), 3);
        check.due("signs", war.told(0), 0);
        check.due("no fault", war.fault(), StereoWar.NONE);
        check.due("say again", war.say('/'), 1);
    }

    // Promise 10
    private static void fault() {
        faultIs("", StereoWar.NONE);
        faultIs("ab", StereoWar.NONE);
        faultIs("aa", StereoWar.NONE);
        faultIs("//ab/cd//ij/", StereoWar.NONE);
        faultIs("a", 1);
        faultIs("abc", 3);
        faultIs("a/b", 1);
        faultIs("abc/", 3);
        faultIs("k", 0);
        faultIs("ak", 1);
        faultIs("A", 0);
        faultIs("ab`b", 2);
        faultIs("ab.cd!", 2);
        faultIs("/0", 1);
        faultIs("ab".repeat(30), StereoWar.NONE);
        faultIs("/" + "ab".repeat(29) + "a", 60);
        faultIs("ab".repeat(29) + "a~", 59);
        faultIs("j".repeat(59) + "/", 59);
    }

    private static void faultIs(String album, int due) {
        StereoWar war = new StereoWar();
        Check.album(war, album);
        check.due("fault of " + album, war.fault(), due);
        war.say('!');
        war.say(32);
        check.due("fault of " + album + " and !", war.fault(), due == StereoWar.NONE && album.length() < 60 ? album.length() : due);
    }

    // Promise 11
    private static void judge() {
        StereoWar war = new StereoWar();
        war.take(0, 0, 0);
        war.take(1, 0, 0);
        war.take(2, 0, 0);
        war.take(9, 0, 0);
        judged(war, "", StereoWar.NONE, StereoWar.NONE, 0, 1);
        judged(war, "///", StereoWar.NONE, StereoWar.NONE, 0, 4);
        judged(war, "ab", StereoWar.NONE, StereoWar.NONE, 1, 1);
        judged(war, "/ab//cj/", StereoWar.NONE, StereoWar.NONE, 2, 5);
        judged(war, "abcd", 1, 1, StereoWar.STATE, StereoWar.STATE);
        judged(war, "dab", StereoWar.NO, StereoWar.NO, StereoWar.NO, StereoWar.NO);
        judged(war, "dd", 0, 1, StereoWar.STATE, StereoWar.STATE);
        judged(war, "da", 0, 1, StereoWar.STATE, StereoWar.STATE);
        judged(war, "ab/jj", 1, 2, StereoWar.STATE, StereoWar.STATE);
        judged(war, "ab/aa", 1, 2, StereoWar.STATE, StereoWar.STATE);
        judged(war, "ab/ad", 1, 1, StereoWar.STATE, StereoWar.STATE);
        judged(war, "ab/ca", 1, 3, StereoWar.STATE, StereoWar.STATE);
        judged(war, "ab/bc", 1, 3, StereoWar.STATE, StereoWar.STATE);
        judged(war, "ab/ba/dd", 1, 3, StereoWar.STATE, StereoWar.STATE);
        judged(war, "abcjjc", 2, 3, StereoWar.STATE, StereoWar.STATE);
    }

    private static void judged(StereoWar war, String album, int pair, int why, int pairs, int pages) {
        Check.album(war, album);
        check.due("the pair of " + album, war.judge(0), pair);
        check.due("why of " + album, war.judge(1), why);
        check.due("pairs of " + album, war.judge(2), pairs);
        check.due("pages of " + album, war.judge(3), pages);
    }

    // Promise 11
    private static void judgeRefused() {
        StereoWar war = new StereoWar();
        check.due("judge(-1)", war.judge(-1), StereoWar.OUTSIDE);
        check.due("judge(4)", war.judge(4), StereoWar.OUTSIDE);
        Check.album(war, "a");
        check.due("outside ahead of no", war.judge(4), StereoWar.OUTSIDE);
        check.due("no", war.judge(3), StereoWar.NO);
        Check.album(war, "bca");
        check.due("no ahead of state", war.judge(2), StereoWar.NO);
        Check.album(war, "bc");
        check.due("outside ahead of state", war.judge(5), StereoWar.OUTSIDE);
        check.due("state", war.judge(3), StereoWar.STATE);
    }

    // Promise 12
    private static void kinds() {
        StereoWar war = fourKinds();
        Check.album(war, "");
        for (int what = 0; what < 6; what++) {
            check.due("kinds(" + what + ") of nothing", war.kinds(what), what == 4 ? StereoWar.NONE : 0);
        }
        Check.album(war, "ab/cd/ef/gh/ij");
        check.due("good", war.kinds(0), 2);
        check.due("flat", war.kinds(1), 1);
        check.due("turned", war.kinds(2), 1);
        check.due("confused", war.kinds(3), 1);
        check.due("the first that is not good", war.kinds(4), 1);
        check.due("good if swapped", war.kinds(5), 3);
        Check.album(war, "ab//ij");
        check.due("all good", war.kinds(4), StereoWar.NONE);
        Check.album(war, "abji");
        check.due("the second is turned", war.kinds(4), 1);
        check.due("swapped it is good", war.kinds(5), 2);
        Check.album(war, "ef/ab");
        check.due("the first is turned", war.kinds(4), 0);
        check.due("kinds(6)", war.kinds(6), StereoWar.OUTSIDE);
        check.due("kinds(-1)", war.kinds(-1), StereoWar.OUTSIDE);
        Check.album(war, "aabb/c");
        check.due("outside ahead of no", war.kinds(6), StereoWar.OUTSIDE);
        check.due("no ahead of state", war.kinds(0), StereoWar.NO);
        Check.album(war, "abac");
        check.due("state", war.kinds(0), StereoWar.STATE);
        check.due("state too of the first", war.kinds(4), StereoWar.STATE);
        check.due("outside ahead of state", war.kinds(9), StereoWar.OUTSIDE);
    }

    /** ab and ij are good, cd is flat, ef turned, gh confused. */
    private static StereoWar fourKinds() {
        StereoWar war = new StereoWar();
        for (int picture = 0; picture < 10; picture++) {
            war.take(picture, 0, 0);
            war.retouch(picture, 0, 30);
            war.retouch(picture, 1, 30);
        }
        war.retouch(0, 0, 31);
        war.retouch(8, 1, 60);
        war.retouch(4, 0, 29);
        war.retouch(6, 0, 29);
        war.retouch(6, 1, 31);
        return war;
    }
}
