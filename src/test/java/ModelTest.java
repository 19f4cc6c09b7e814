import java.util.Random;

/**
 * Promises 1 to 28 by long runs: the same calls on StereoWar and on PlainWar, with numbers as told, at
 * their edges and far outside; and what all refused calls leave as it was.
 */
public final class ModelTest {
    private static final Check check = new Check("ModelTest");
    /** Behind them 82 numbers are told, so that no object is asked more than 512 times. */
    private static final int CALLS = 430;
    private static final int[] FAR = {Integer.MIN_VALUE, Integer.MIN_VALUE + 1, -100, -7, -6, -5, -2, -1, 10, 11, 61, 62,
        99, 100, 101, 1000, 1023, 1024, 65536, Integer.MAX_VALUE};

    private final Random random;
    private final StereoWar war = new StereoWar();
    private final PlainWar plain = new PlainWar();
    private final int run;
    /** Of a hundred numbers so many are far outside. */
    private final int wild;

    private ModelTest(int run) {
        this.run = run;
        this.random = new Random(7919L * run + 1);
        this.wild = run % 5 == 4 ? 30 : run % 5;
    }

    public static void main(String[] args) {
        for (int run = 0; run < 120; run++) {
            ModelTest test = new ModelTest(run);
            for (int call = 0; call < CALLS; call++) {
                test.step(call);
            }
            test.compareAll();
        }
        check.end();
    }

    private int pick(int least, int most) {
        if (random.nextInt(100) < wild) {
            int way = random.nextInt(4);
            return way == 0 ? least - 1 : way == 1 ? most + 1 : FAR[random.nextInt(FAR.length)];
        }
        int way = random.nextInt(12);
        return way == 0 ? least : way == 1 ? most : least + random.nextInt(most - least + 1);
    }

    private void same(int call, String name, long got, long want, int... args) {
        StringBuilder text = new StringBuilder("run " + run + ", call " + call + ": " + name);
        for (int arg : args) {
            text.append(' ').append(arg);
        }
        check.due(text.toString(), got, want);
    }

    /** Everything that can be told of both, behind a run. */
    private void compareAll() {
        for (int what = 0; what < 4; what++) {
            compareTold(what);
        }
        for (int what = 10; what < 70; what += 10) {
            for (int part = 0; part < 3; part++) {
                compareTold(what + part);
            }
        }
        for (int what = 100; what < 1100; what += 100) {
            for (int thing = 0; thing < 6; thing++) {
                compareTold(what + thing);
            }
        }
    }

    private void compareTold(int what) {
        same(CALLS, "told", war.told(what), plain.told(what), what);
    }

    private void step(int call) {
        int way = random.nextInt(call < 40 ? 30 : 100);
        if (way < 34) {
            changes(call, way);
        } else if (way < 52) {
            albums(call);
        } else if (way < 66) {
            pairs(call);
        } else if (way < 82) {
            stands(call);
        } else {
            walks(call);
        }
    }

    private void changes(int call, int way) {
        int a = pick(0, 5);
        int p = pick(0, 9);
        int k = pick(0, 1);
        if (way < 9) {
            int place = pick(0, 99);
            int pace = random.nextInt(3) == 0 ? pick(-9, 9) : pick(-1, 1);
            int deep = random.nextInt(2) == 0 ? pick(1, 20) : pick(15, 20);
            same(call, "thing", war.thing(a, place, pace, deep), plain.thing(a, place, pace, deep), a, place, pace, deep);
        } else if (way < 23) {
            int stand = random.nextInt(2) == 0 ? pick(0, 99) : pick(40, 60);
            int minute = random.nextInt(2) == 0 ? pick(0, 99) : pick(0, 5);
            same(call, "take", war.take(p, stand, minute), plain.take(p, stand, minute), p, stand, minute);
        } else if (way < 27) {
            int column = random.nextInt(4) == 0 ? StereoWar.NONE : pick(0, 60);
            same(call, "retouch", war.retouch(p, a, column), plain.retouch(p, a, column), p, a, column);
        } else if (way < 28) {
            int v = pick(1, 40);
            same(call, "focus", war.focus(v), plain.focus(v), v);
        } else if (way < 30) {
            same(call, "image", war.image(k), plain.image(k), k);
        } else if (way < 31) {
            same(call, "leave", war.leave(a), plain.leave(a), a);
        } else if (way < 32) {
            same(call, "burn", war.burn(p), plain.burn(p), p);
        } else {
            same(call, "restore", war.restore(k), plain.restore(k), k);
        }
    }

    private void albums(int call) {
        int way = random.nextInt(20);
        if (way < 14) {
            int sign = random.nextInt(40) == 0 ? pick(33, 126) : random.nextInt(8) == 0 ? '/' : 'a' + pick(0, 9);
            same(call, "say", war.say(sign), plain.say(sign), sign);
        } else if (way < 15) {
            same(call, "wipe", war.wipe(), plain.wipe());
        } else if (way < 16) {
            same(call, "fault", war.fault(), plain.fault());
        } else if (way < 18) {
            int what = pick(0, 3);
            same(call, "judge", war.judge(what), plain.judge(what), what);
        } else {
            int what = pick(0, 5);
            same(call, "kinds", war.kinds(what), plain.kinds(what), what);
        }
    }

    private void pairs(int call) {
        int l = pick(0, 9);
        int r = pick(0, 9);
        switch (random.nextInt(5)) {
            case 0 -> same(call, "kind", war.kind(l, r), plain.kind(l, r), l, r);
            case 1 -> {
                int a = pick(0, 5);
                same(call, "shift", war.shift(l, r, a), plain.shift(l, r, a), l, r, a);
            }
            case 2 -> {
                int i = pick(-2, 4);
                same(call, "near", war.near(l, r, i), plain.near(l, r, i), l, r, i);
            }
            case 3 -> same(call, "eyes", war.eyes(), plain.eyes());
            default -> {
                int set = random.nextInt(4) == 0 ? pick(0, 1023) : plain.told(2) & ~(random.nextInt(1024) & random.nextInt(1024));
                int p = pick(-1, 9);
                same(call, "match", war.match(set, p), plain.match(set, p), set, p);
            }
        }
    }

    private void stands(int call) {
        int p = pick(0, 9);
        switch (random.nextInt(4)) {
            case 0 -> {
                int i = random.nextInt(3) == 0 ? pick(-2, 9999) : pick(-1, 5);
                same(call, "stood", war.stood(p, i), plain.stood(p, i), p, i);
            }
            case 1 -> {
                int what = pick(0, 1);
                same(call, "forged", war.forged(p, what), plain.forged(p, what), p, what);
            }
            case 2 -> {
                int other = pick(0, 9);
                same(call, "ahead", war.ahead(p, other), plain.ahead(p, other), p, other);
            }
            default -> {
                int a = pick(0, 5);
                int what = pick(0, 2);
                same(call, "missing", war.missing(p, a, what), plain.missing(p, a, what), p, a, what);
            }
        }
    }

    private void walks(int call) {
        int stand = pick(0, 99);
        int minute = pick(0, 99);
        switch (random.nextInt(5)) {
            case 0, 1 -> {
                int[] x = {stand, minute, pick(1, 40), pick(0, 8), pick(0, 10), pick(0, 3), pick(0, 1)};
                same(call, "late", war.late(x[0], x[1], x[2], x[3], x[4], x[5], x[6]),
                    plain.late(x[0], x[1], x[2], x[3], x[4], x[5], x[6]), x);
            }
            case 2 -> {
                int a = pick(0, 5);
                int what = pick(0, 1);
                same(call, "past", war.past(a, stand, what), plain.past(a, stand, what), a, stand, what);
            }
            case 3 -> {
                int what = pick(0, 1);
                same(call, "best", war.best(minute, what), plain.best(minute, what), minute, what);
            }
            default -> {
                int seed = pick(0, 9999);
                int m = pick(1, 99);
                int kind = pick(0, 3);
                same(call, "year", war.year(seed, m, kind), plain.year(seed, m, kind), seed, m, kind);
            }
        }
    }
}
