import java.util.ArrayList;
import java.util.Arrays;
import java.util.List;

/**
 * Promises 2 to 28: the least and the greatest number that each call allows are not refused; the next one
 * beyond each, the least and the greatest int are, alone and with each other number that is refused at once,
 * by the first refusal that fits; a refused call changes nothing. In states from nothing to all.
 */
public final class RefusalsTest {
    private static final Check check = new Check("RefusalsTest");
    private static final int LEAST = Integer.MIN_VALUE, GREATEST = Integer.MAX_VALUE;
    private static final int UNKNOWN = -1, OUTSIDE = -2, STATE = -3, FULL = -4, NO = -5, NONE = -6, FINE = 0;
    private static final List<Integer> ORDER = List.of(UNKNOWN, OUTSIDE, NO, STATE, FULL);

    /** What a number of a call may be, may not be, and what it is refused with. */
    private record Number(List<Integer> good, List<Integer> bad, int refusal) {
        private List<Integer> both() {
            List<Integer> all = new ArrayList<>(good);
            all.addAll(bad);
            return all;
        }

        private int ofBorder(boolean last) {
            List<Integer> from = good.isEmpty() ? bad : good;
            return from.get(last ? from.size() - 1 : 0);
        }

        private int refused(int number) {
            return good.contains(number) ? FINE : refusal;
        }
    }

    private interface Asked {
        long of(StereoWar war, int[] n);
    }

    /** What is refused by more than one number, or by the state. */
    private interface Further {
        int refused(int[] n);
    }

    private static final Further NOTHING_FURTHER = n -> FINE;
    private static final Further ONE = n -> n[0] == n[1] ? UNKNOWN : FINE;

    private static final Number ANY_THING = range(0, 5, UNKNOWN);
    private static final Number ANY_PICTURE = range(0, 9, UNKNOWN);
    private static final Number STAND = range(0, 99, OUTSIDE);
    private static final Number MINUTE = range(0, 99, OUTSIDE);
    private static final Number KIND = range(0, 3, OUTSIDE);
    private static final Number COLUMN =
        new Number(List.of(0, 60, NONE), List.of(-1, 61, NONE - 1, NONE + 1, LEAST, GREATEST), OUTSIDE);
    private static final Number ANY = new Number(List.of(LEAST, -2, -1, 0, 5, 6, 9999, 10000, GREATEST), List.of(), FINE);

    private final Scenes.Scene scene;
    private final List<Long> everything;
    private final Number thing;
    private final Number picture;

    private RefusalsTest(Scenes.Scene scene) {
        this.scene = scene;
        this.everything = Scenes.everything(scene.make().get());
        this.thing = among(scene.things(), 6);
        this.picture = among(scene.pictures(), 10);
    }

    public static void main(String[] args) {
        check.fine("the order of refusals is another", ORDER.equals(List.of(StereoWar.UNKNOWN, StereoWar.OUTSIDE,
            StereoWar.NO, StereoWar.STATE, StereoWar.FULL)));
        for (Scenes.Scene scene : Scenes.ALL) {
            RefusalsTest test = new RefusalsTest(scene);
            test.thingsAndPictures();
            test.signs();
            test.pairs();
            test.stands();
            test.walks();
            test.images();
        }
        check.end();
    }

    private static Number range(int least, int most, int refusal) {
        return new Number(List.of(least, most), List.of(least - 1, most + 1, LEAST, GREATEST), refusal);
    }

    /** A thing or a picture that there is: of so many numbers those of the bits. */
    private static Number among(int bits, int many) {
        List<Integer> good = new ArrayList<>();
        List<Integer> bad = new ArrayList<>(List.of(-1, many, LEAST, GREATEST, 32, -32));
        for (int number = 0; number < many; number++) {
            ((bits >> number & 1) == 1 ? good : bad).add(number);
        }
        return new Number(good, bad, UNKNOWN);
    }

    // Promises 2 to 7
    private void thingsAndPictures() {
        ask("thing", (w, n) -> w.thing(n[0], n[1], n[2], n[3]), NOTHING_FURTHER,
            ANY_THING, range(0, 99, OUTSIDE), range(-9, 9, OUTSIDE), range(1, 20, OUTSIDE));
        ask("leave", (w, n) -> w.leave(n[0]), NOTHING_FURTHER, thing);
        ask("focus", (w, n) -> w.focus(n[0]), NOTHING_FURTHER, range(1, 40, OUTSIDE));
        ask("take", (w, n) -> w.take(n[0], n[1], n[2]), NOTHING_FURTHER, ANY_PICTURE, STAND, MINUTE);
        ask("retouch", (w, n) -> w.retouch(n[0], n[1], n[2]), NOTHING_FURTHER, picture, ANY_THING, COLUMN);
        ask("burn", (w, n) -> w.burn(n[0]), NOTHING_FURTHER, picture);
    }

    // Promises 8, 11 and 12
    private void signs() {
        Number sign = new Number(List.of(33, 126), List.of(32, 127, 0, -1, 128, 'a' + 256, 'a' + 65536, LEAST, GREATEST),
            OUTSIDE);
        ask("say", (w, n) -> w.say(n[0]), n -> scene.signs() == 60 ? FULL : FINE, sign);
        ask("judge", (w, n) -> w.judge(n[0]), n -> refusedByAlbum(n[0] > 1), range(0, 3, OUTSIDE));
        ask("kinds", (w, n) -> w.kinds(n[0]), n -> refusedByAlbum(true), range(0, 5, OUTSIDE));
    }

    private int refusedByAlbum(boolean allMustBe) {
        return scene.fault() ? NO : allMustBe && scene.wrongPair() ? STATE : FINE;
    }

    // Promises 13 to 16, 19
    private void pairs() {
        ask("kind", (w, n) -> w.kind(n[0], n[1]), ONE, picture, picture);
        ask("shift", (w, n) -> w.shift(n[0], n[1], n[2]), this::refusedShift, picture, picture, ANY_THING);
        ask("near", (w, n) -> w.near(n[0], n[1], n[2]), ONE, picture, picture, ANY);
        ask("ahead", (w, n) -> w.ahead(n[0], n[1]), ONE, picture, picture);
        List<Integer> noSets = new ArrayList<>(List.of(-1, 1024, 1024 + scene.pictures(), LEAST, LEAST + scene.pictures(),
            GREATEST));
        for (int number = 0; number < 10; number++) {
            if ((scene.pictures() >> number & 1) == 0) {
                noSets.add(1 << number);
                noSets.add(scene.pictures() | 1 << number);
            }
        }
        Number set = new Number(List.of(0, scene.pictures() & -scene.pictures(), scene.pictures()), noSets, UNKNOWN);
        Number of = new Number(List.of(-1, 0, 1, 2, 8, 9), List.of(-2, 10, 31, 32, 42, LEAST, GREATEST), UNKNOWN);
        ask("match", (w, n) -> w.match(n[0], n[1]),
            n -> of.good().contains(n[1]) && n[1] >= 0 && (n[0] >> n[1] & 1) == 0 ? UNKNOWN : FINE, set, of);
    }

    /** By what is told: the thing has no column in one of both. */
    private int refusedShift(int[] n) {
        if (n[0] == n[1]) {
            return UNKNOWN;
        }
        boolean numbers = picture.good().contains(n[0]) && picture.good().contains(n[1]) && n[2] >= 0 && n[2] < 6;
        if (!numbers) {
            return FINE;
        }
        StereoWar war = scene.make().get();
        return war.told(100 * (1 + n[0]) + n[2]) == NONE || war.told(100 * (1 + n[1]) + n[2]) == NONE ? STATE : FINE;
    }

    // Promises 17, 18 and 20
    private void stands() {
        ask("stood", (w, n) -> w.stood(n[0], n[1]), NOTHING_FURTHER, picture, ANY);
        ask("forged", (w, n) -> w.forged(n[0], n[1]), NOTHING_FURTHER, picture, range(0, 1, OUTSIDE));
        ask("missing", (w, n) -> w.missing(n[0], n[1], n[2]), NOTHING_FURTHER, picture, thing, range(0, 2, OUTSIDE));
    }

    // Promises 22 to 25
    private void walks() {
        ask("late", (w, n) -> w.late(n[0], n[1], n[2], n[3], n[4], n[5], n[6]), NOTHING_FURTHER, STAND, MINUTE,
            range(1, 40, OUTSIDE), range(0, 8, OUTSIDE), range(0, 10, OUTSIDE), KIND, range(0, 1, OUTSIDE));
        ask("past", (w, n) -> w.past(n[0], n[1], n[2]), NOTHING_FURTHER, thing, STAND, range(0, 1, OUTSIDE));
        ask("best", (w, n) -> w.best(n[0], n[1]), NOTHING_FURTHER, MINUTE, range(0, 1, OUTSIDE));
        ask("year", (w, n) -> w.year(n[0], n[1], n[2]), NOTHING_FURTHER, range(0, 9999, OUTSIDE), range(1, 99, OUTSIDE),
            KIND);
    }

    // Promises 26 to 28
    private void images() {
        ask("image", (w, n) -> w.image(n[0]), NOTHING_FURTHER, range(0, 1, OUTSIDE));
        ask("restore", (w, n) -> w.restore(n[0]), n -> (scene.images() >> n[0] & 1) == 1 ? FINE : STATE,
            range(0, 1, OUTSIDE));
        List<Integer> codes = new ArrayList<>(List.of(0, 1, 2, 3));
        thing.good().forEach(number -> codes.addAll(List.of(10 + 10 * number, 11 + 10 * number, 12 + 10 * number)));
        for (int number : picture.good()) {
            for (int shown = 0; shown < 6; shown++) {
                codes.add(100 * (1 + number) + shown);
            }
        }
        List<Integer> noCodes = new ArrayList<>(List.of(LEAST, LEAST + 1, GREATEST - 1, GREATEST));
        for (int code = -120; code < 1240; code++) {
            if (!codes.contains(code)) {
                noCodes.add(code);
            }
        }
        ask("told", (w, n) -> w.told(n[0]), NOTHING_FURTHER, new Number(codes, noCodes, OUTSIDE));
    }

    /** A call with all numbers at their borders, and each two of them anywhere, the others at the first or the last. */
    private void ask(String name, Asked asked, Further further, Number... numbers) {
        for (int side = 0; side < 2; side++) {
            int[] n = new int[numbers.length];
            for (int i = 0; i < n.length; i++) {
                n[i] = numbers[i].ofBorder(side == 1);
            }
            for (int i = 0; i < n.length; i++) {
                for (int j = i; j < n.length; j++) {
                    askOfTwo(name, asked, further, numbers, n, i, j);
                }
            }
        }
    }

    private void askOfTwo(String name, Asked asked, Further further, Number[] numbers, int[] others, int i, int j) {
        for (int first : numbers[i].both()) {
            for (int second : i == j ? List.of(first) : numbers[j].both()) {
                int[] n = others.clone();
                n[i] = first;
                n[j] = second;
                askOnce(name, asked, further, numbers, n);
            }
        }
    }

    private void askOnce(String name, Asked asked, Further further, Number[] numbers, int[] n) {
        List<Integer> refusals = new ArrayList<>();
        for (int i = 0; i < n.length; i++) {
            refusals.add(numbers[i].refused(n[i]));
        }
        refusals.add(further.refused(n));
        int due = ORDER.stream().filter(refusals::contains).findFirst().orElse(FINE);
        StereoWar war = scene.make().get();
        long answer = asked.of(war, n);
        String call = scene.name() + ": " + name + Arrays.toString(n);
        if (due == FINE) {
            check.fine(call + " is refused with " + answer, answer >= 0 || answer == NONE);
        } else {
            check.due(call, answer, name.equals("late") ? StereoWar.GONE + due : due);
            check.fine(call + " is refused and changes something", Scenes.everything(war).equals(everything));
        }
    }
}
