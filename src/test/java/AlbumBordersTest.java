/** Promises 8 to 12 at their borders: every sign, an empty pad and a full one, each reason with each other. */
public final class AlbumBordersTest {
    private static final Check check = new Check("AlbumBordersTest");
    private static final int NONE = StereoWar.NONE, OUTSIDE = StereoWar.OUTSIDE, STATE = StereoWar.STATE;
    private static final int NO = StereoWar.NO, FULL = StereoWar.FULL;

    public static void main(String[] args) {
        everySignIsSaid();
        noOtherSignIsSaid();
        sixtySigns();
        saidSignsChangeTheFault();
        wipeAnyNumber();
        everySignAtTheBeginning();
        everySignWithinAPair();
        everySignBehindAPair();
        everySignAtTheEnd();
        theFirstFault();
        aLetterMustCome();
        pagesAsOneLikes();
        judgeNothing();
        judgeAllPictures();
        judgeTheLastPair();
        judgeFullPads();
        theLeastReason();
        noPicturesAtAll();
        judgedByPicturesOfNow();
        refusedJudgements();
        kindsOfNothing();
        kindsAllAlike();
        theFirstNotGood();
        refusedKinds();
        check.end();
    }

    private static StereoWar pad(String album) {
        StereoWar war = new StereoWar();
        Check.album(war, album);
        return war;
    }

    private static boolean isLetter(int sign) {
        return "abcdefghij".indexOf(sign) >= 0;
    }

    // "codes 33 to 126", "A sign more: how many"
    private static void everySignIsSaid() {
        StereoWar war = new StereoWar();
        for (int sign = 33; sign <= 126; sign++) {
            check.due("say(" + sign + ")", war.say(sign), (sign - 33) % 60 + 1);
            check.due("signs", war.told(0), (sign - 33) % 60 + 1);
            if (sign == 33 + 59) {
                check.due("a full pad", war.wipe(), 60);
            }
        }
    }

    private static void noOtherSignIsSaid() {
        StereoWar war = pad("ab/");
        for (int sign : new int[] {32, 127, 0, -1, 31, 128, -97, 97 + 128, 97 + 256, 97 + 65536, 97 - 65536, 10, 9,
            Integer.MIN_VALUE, Integer.MAX_VALUE, Integer.MIN_VALUE + 97}) {
            check.due("say(" + sign + ")", war.say(sign), OUTSIDE);
            check.due("signs", war.told(0), 3);
            check.due("fault", war.fault(), NONE);
        }
    }

    // "a PAD of up to 60 signs": FULL
    private static void sixtySigns() {
        StereoWar war = new StereoWar();
        for (int count = 1; count <= 60; count++) {
            check.due("sign " + count, war.say('/'), count);
        }
        check.due("sign 61", war.say('/'), FULL);
        check.due("sign 61, the least", war.say(33), FULL);
        check.due("sign 61, the greatest", war.say(126), FULL);
        check.due("outside ahead of full, below", war.say(32), OUTSIDE);
        check.due("outside ahead of full, above", war.say(127), OUTSIDE);
        check.due("60 stay", war.told(0), 60);
        check.due("no fault by what is refused", war.fault(), NONE);
        check.due("60 are wiped", war.wipe(), 60);
        check.due("sign 1 again", war.say('/'), 1);
    }

    // "They change nothing (a sign that is said changes what fault() tells)"
    private static void saidSignsChangeTheFault() {
        StereoWar war = new StereoWar();
        check.due("of nothing", war.fault(), NONE);
        war.say('a');
        check.due("of a", war.fault(), 1);
        war.say(32);
        check.due("of a and a refused sign", war.fault(), 1);
        war.say('b');
        check.due("of ab", war.fault(), NONE);
        war.say('/');
        check.due("of ab/", war.fault(), NONE);
        war.say('c');
        check.due("of ab/c", war.fault(), 4);
        war.say('/');
        check.due("of ab/c/", war.fault(), 4);
        war.say('d');
        check.due("of ab/c/d", war.fault(), 4);
        war.wipe();
        check.due("of nothing again", war.fault(), NONE);
    }

    // "Signs go: how many there were"
    private static void wipeAnyNumber() {
        for (int count = 0; count <= 60; count++) {
            StereoWar war = pad("k".repeat(count));
            check.due("signs of " + count, war.told(0), count);
            check.due("wipe of " + count, war.wipe(), count);
            check.due("wipe again", war.wipe(), 0);
            check.due("no fault behind it", war.fault(), NONE);
            check.due("no pairs behind it", war.judge(2), 0);
        }
    }

    // "two letters a to j, left and right; / between them turns a page"
    private static void everySignAtTheBeginning() {
        for (char sign = 33; sign <= 126; sign++) {
            check.due("fault of " + sign, pad("" + sign).fault(), sign == '/' ? NONE : isLetter(sign) ? 1 : 0);
            check.due("fault of //" + sign, pad("//" + sign).fault(), sign == '/' ? NONE : isLetter(sign) ? 3 : 2);
        }
    }

    // ".. but not within a PAIR"
    private static void everySignWithinAPair() {
        for (char sign = 33; sign <= 126; sign++) {
            check.due("fault of a" + sign, pad("a" + sign).fault(), isLetter(sign) ? NONE : 1);
            check.due("fault of /cdj" + sign, pad("/cdj" + sign).fault(), isLetter(sign) ? NONE : 4);
        }
    }

    private static void everySignBehindAPair() {
        for (char sign = 33; sign <= 126; sign++) {
            check.due("fault of ab" + sign, pad("ab" + sign).fault(), sign == '/' ? NONE : isLetter(sign) ? 3 : 2);
            check.due("fault of jj" + sign + "/", pad("jj" + sign + "/").fault(),
                sign == '/' ? NONE : isLetter(sign) ? 3 : 2);
        }
    }

    // place 59 is the last; 60 is the number of signs of a full pad
    private static void everySignAtTheEnd() {
        for (char sign = 33; sign <= 126; sign++) {
            check.due("the last sign is " + sign, pad("/".repeat(59) + sign).fault(),
                sign == '/' ? NONE : isLetter(sign) ? 60 : 59);
            check.due("the last sign within a pair is " + sign, pad("/".repeat(58) + "a" + sign).fault(),
                isLetter(sign) ? NONE : 59);
        }
    }

    // "the place (from 0 on) of the first sign that can not stand there"
    private static void theFirstFault() {
        for (int place = 0; place < 60; place++) {
            String before = place % 2 == 0 ? "ab".repeat(place / 2) : "/" + "ij".repeat(place / 2);
            check.due("fault at " + place, pad(before + "!").fault(), place);
            check.due("the first fault at " + place, pad(before + "k" + "~".repeat(59 - place)).fault(), place);
        }
        check.due("fault of a//", pad("a//").fault(), 1);
        check.due("fault of aba/b", pad("aba/b").fault(), 3);
        check.due("fault of A", pad("A").fault(), 0);
        check.due("fault of J", pad("J").fault(), 0);
        check.due("fault of aB", pad("aB").fault(), 1);
    }

    // "or the number of signs, if a letter must come"
    private static void aLetterMustCome() {
        for (int count = 0; count <= 60; count++) {
            check.due("fault of " + count + " letters", pad("j".repeat(count)).fault(), count % 2 == 0 ? NONE : count);
        }
        check.due("fault of 59 / and a letter", pad("/".repeat(59) + "a").fault(), 60);
    }

    // "Pages are turned as one likes, also at the beginning, at the end, several together"
    private static void pagesAsOneLikes() {
        StereoWar war = Scenes.FULL.make().get();
        String[] albums = {"/", "//", "/ab", "//ab", "ab/", "ab//", "ab/cd", "ab//cd", "/ab/cd/", "///abcd///ef//"};
        int[] pages = {2, 3, 2, 3, 2, 3, 2, 3, 4, 9};
        for (int i = 0; i < albums.length; i++) {
            Check.album(war, albums[i]);
            check.due("fault of " + albums[i], war.fault(), NONE);
            check.due("pages of " + albums[i], war.judge(3), pages[i]);
        }
    }

    private static void judged(StereoWar war, String album, int pair, int why, int pairs, int pages) {
        Check.album(war, album);
        check.due("the pair of " + album, war.judge(0), pair);
        check.due("why of " + album, war.judge(1), why);
        check.due("pairs of " + album, war.judge(2), pairs);
        check.due("pages of " + album, war.judge(3), pages);
    }

    // "JUDGED .. NONE", "one more than are turned"
    private static void judgeNothing() {
        judged(new StereoWar(), "", NONE, NONE, 0, 1);
        judged(new StereoWar(), "/", NONE, NONE, 0, 2);
        judged(new StereoWar(), "/".repeat(60), NONE, NONE, 0, 61);
        judged(Scenes.FULL.make().get(), "", NONE, NONE, 0, 1);
        judged(Scenes.FULL.make().get(), "/".repeat(60), NONE, NONE, 0, 61);
    }

    private static void judgeAllPictures() {
        StereoWar war = Scenes.FULL.make().get();
        judged(war, "abcdefghij", NONE, NONE, 5, 1);
        judged(war, "jihgfedcba" + "/".repeat(50), NONE, NONE, 5, 51);
        judged(war, "/".repeat(50) + "acbdehfgji", NONE, NONE, 5, 51);
        judged(war, "abcdefghijab", 5, 3, STATE, STATE);
        judged(war, "ij", NONE, NONE, 1, 1);
    }

    private static void judgeTheLastPair() {
        StereoWar war = Scenes.FULL.make().get();
        war.burn(9);
        judged(war, "abcdefgh" + "/".repeat(50) + "ij", 4, 1, STATE, STATE);
        judged(war, "abcdefgh" + "/".repeat(50) + "ji", 4, 1, STATE, STATE);
        judged(war, "abcdefgh" + "/".repeat(50) + "ii", 4, 2, STATE, STATE);
        judged(war, "abcdefgh" + "/".repeat(50) + "ia", 4, 3, STATE, STATE);
        judged(war, "abcdefgh" + "/".repeat(50) + "hi", 4, 3, STATE, STATE);
    }

    private static void judgeFullPads() {
        judged(Scenes.FULL.make().get(), "ab".repeat(30), 1, 3, STATE, STATE);
        judged(Scenes.FULL.make().get(), "jj".repeat(30), 0, 2, STATE, STATE);
        judged(new StereoWar(), "ij".repeat(30), 0, 1, STATE, STATE);
        judged(Scenes.FULL.make().get(), "abcdefghij".repeat(6), 5, 3, STATE, STATE);
        judged(Scenes.FULL.make().get(), "ab".repeat(29) + "/a", NO, NO, NO, NO);
        judged(Scenes.FULL.make().get(), "ab".repeat(29) + "a/", NO, NO, NO, NO);
    }

    // "A PAIR can not be for the least of these reasons": each, and each two that fit at once
    private static void theLeastReason() {
        StereoWar war = new StereoWar();
        for (int picture = 0; picture < 3; picture++) {
            war.take(picture, 0, 0);
        }
        judged(war, "ad", 0, 1, STATE, STATE);
        judged(war, "da", 0, 1, STATE, STATE);
        judged(war, "de", 0, 1, STATE, STATE);
        judged(war, "aa", 0, 2, STATE, STATE);
        judged(war, "ab/ac", 1, 3, STATE, STATE);
        judged(war, "ab/ca", 1, 3, STATE, STATE);
        judged(war, "ab/bc", 1, 3, STATE, STATE);
        judged(war, "ab/cb", 1, 3, STATE, STATE);
        judged(war, "ab/ab", 1, 3, STATE, STATE);
        judged(war, "ab/ba", 1, 3, STATE, STATE);
        judged(war, "dd", 0, 1, STATE, STATE);
        judged(war, "ab/ad", 1, 1, STATE, STATE);
        judged(war, "ab/da", 1, 1, STATE, STATE);
        judged(war, "ab/bd", 1, 1, STATE, STATE);
        judged(war, "ab/db", 1, 1, STATE, STATE);
        judged(war, "ab/aa", 1, 2, STATE, STATE);
        judged(war, "ab/bb", 1, 2, STATE, STATE);
        judged(war, "ab/cc", 1, 2, STATE, STATE);
        judged(war, "ab/cc/dd", 1, 2, STATE, STATE);
        judged(war, "ab/ca/cc", 1, 3, STATE, STATE);
    }

    private static void noPicturesAtAll() {
        judged(new StereoWar(), "ab", 0, 1, STATE, STATE);
        judged(new StereoWar(), "aa", 0, 1, STATE, STATE);
        judged(new StereoWar(), "///jj", 0, 1, STATE, STATE);
    }

    private static void judgedByPicturesOfNow() {
        StereoWar war = new StereoWar();
        Check.album(war, "ij");
        check.due("none is there", war.judge(1), 1);
        war.take(8, 0, 0);
        check.due("one is there", war.judge(1), 1);
        war.take(9, 0, 0);
        check.due("both are there", war.judge(1), NONE);
        war.burn(8);
        check.due("one is burnt", war.judge(0), 0);
        war.take(8, 0, 0);
        check.due("both again", war.judge(2), 1);
    }

    // "OUTSIDE; NO: there is a FAULT; STATE (2, 3): some PAIR can not be"
    private static void refusedJudgements() {
        int[] beyond = {-1, 4, Integer.MIN_VALUE, Integer.MAX_VALUE};
        for (String album : new String[] {"", "a", "aa", "aa/k", "abc", "/".repeat(60), "a".repeat(60)}) {
            StereoWar war = pad(album);
            for (int what : beyond) {
                check.due("judge(" + what + ") of " + album, war.judge(what), OUTSIDE);
            }
        }
        for (int what = 0; what < 4; what++) {
            check.due("a fault", pad("k").judge(what), NO);
            check.due("a letter must come", pad("abc").judge(what), NO);
            check.due("a fault ahead of a pair that can not be", pad("aa/k").judge(what), NO);
        }
        check.due("the pair that can not be is told", pad("aa").judge(0), 0);
        check.due("why is told", pad("aa").judge(1), 1);
        check.due("pairs are not told", pad("aa").judge(2), STATE);
        check.due("pages are not told", pad("aa").judge(3), STATE);
    }

    private static void kindsAre(StereoWar war, String album, int... due) {
        Check.album(war, album);
        for (int what = 0; what < 6; what++) {
            check.due("kinds(" + what + ") of " + album, war.kinds(what), due[what]);
        }
    }

    private static void kindsOfNothing() {
        kindsAre(new StereoWar(), "", 0, 0, 0, 0, NONE, 0);
        kindsAre(new StereoWar(), "/", 0, 0, 0, 0, NONE, 0);
        kindsAre(Scenes.FULL.make().get(), "/".repeat(60), 0, 0, 0, 0, NONE, 0);
    }

    /** Ten pictures, each farther to the left than those ahead of it. */
    private static StereoWar falling() {
        StereoWar war = new StereoWar();
        for (int picture = 0; picture < 10; picture++) {
            war.take(picture, 0, 0);
            war.retouch(picture, 0, 60 - 6 * picture);
        }
        return war;
    }

    // "how many PAIRS of it are of a kind (0 to 3)": all five of one kind
    private static void kindsAllAlike() {
        String slashes = "/".repeat(50);
        kindsAre(falling(), "abcdefghij" + slashes, 5, 0, 0, 0, NONE, 5);
        kindsAre(falling(), slashes + "badcfehgji", 0, 0, 5, 0, 0, 5);
        StereoWar war = falling();
        for (int picture = 0; picture < 10; picture++) {
            war.retouch(picture, 5, 6 * picture);
        }
        kindsAre(war, "abcdefghij" + slashes, 0, 0, 0, 5, 0, 0);
        for (int picture = 0; picture < 10; picture++) {
            war.take(picture, 99, 99);
        }
        kindsAre(war, "abcdefghij", 0, 5, 0, 0, 0, 0);
        kindsAre(war, "ij", 0, 1, 0, 0, 0, 0);
    }

    // "the first that is not GOOD": at each place
    private static void theFirstNotGood() {
        kindsAre(falling(), "badcfeghij", 2, 0, 3, 0, 0, 5);
        kindsAre(falling(), "abdcfeghij", 3, 0, 2, 0, 1, 5);
        kindsAre(falling(), "abcdfeghij", 4, 0, 1, 0, 2, 5);
        kindsAre(falling(), "ab/cd/ef/hg/ji", 3, 0, 2, 0, 3, 5);
        kindsAre(falling(), "abcdefghji", 4, 0, 1, 0, 4, 5);
        StereoWar war = falling();
        war.retouch(9, 0, 12);
        kindsAre(war, "abcdefghij", 4, 1, 0, 0, 4, 4);
        war.retouch(8, 1, 0);
        war.retouch(9, 0, NONE);
        kindsAre(war, "abcdefghij", 4, 1, 0, 0, 4, 4);
        war.retouch(9, 0, 0);
        war.retouch(9, 1, 1);
        kindsAre(war, "abcdefghij", 4, 0, 0, 1, 4, 4);
    }

    // "OUTSIDE; NO, STATE, as of judge(2)"
    private static void refusedKinds() {
        for (int what = 0; what < 6; what++) {
            check.due("a fault", pad("k").kinds(what), NO);
            check.due("a letter must come", pad("abc").kinds(what), NO);
            check.due("a fault ahead of a pair that can not be", pad("aa/k").kinds(what), NO);
            check.due("a pair that can not be", pad("aa").kinds(what), STATE);
        }
        int[] beyond = {-1, 6, Integer.MIN_VALUE, Integer.MAX_VALUE};
        for (String album : new String[] {"", "a", "aa", "aa/k", "abc", "/".repeat(60), "a".repeat(60)}) {
            StereoWar war = pad(album);
            for (int what : beyond) {
                check.due("kinds(" + what + ") of " + album, war.kinds(what), OUTSIDE);
            }
        }
    }
}
