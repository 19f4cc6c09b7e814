/**
 * Pairs of photographs for stereoscopes: things, pictures of them, albums of pairs, and what can be
 * told from pictures about where, when and how truly they were taken.
 *
 * <p>Everything that a call needs is made once, with the object; no call makes anything.
 */
public final class StereoWar {
    public static final int UNKNOWN = -1, OUTSIDE = -2, STATE = -3, FULL = -4, NO = -5, NONE = -6;
    public static final long GONE = -1000000000000000000L;

    private static final int THINGS = 6, PICTURES = 10, STANDS = 100, MINUTES = 100, IMAGES = 2;
    private static final int LAST_PLACE = 99, MOST_PACE = 9, MOST_DEEP = 20;
    private static final int FIRST_FOCUS = 20, MOST_FOCUS = 40;
    private static final int MIDDLE_COLUMN = 30, LAST_COLUMN = 60;
    private static final int SIGNS = 60, FIRST_SIGN = 33, LAST_SIGN = 126;
    private static final int GOOD = 0, FLAT = 1, TURNED = 2, CONFUSED = 3;
    private static final int NO_PICTURE = 1, BOTH_ONE = 2, SEEN_AHEAD = 3, CAN_BE = 0;
    private static final int SHIFT_ZERO = 100, PACE_ZERO = 9;
    private static final int MOST_STEP = 40, MOST_LATE = 8, TENTHS = 10;
    private static final int LAST_SEED = 9999, MOST_VIEWINGS = 99, DRAW_FACTOR = 75, DRAW_MORE = 74;
    private static final int DRAW_MODULUS = 65537;
    private static final int ALL = -1, NOTHING_LEFT_OUT = -1;

    private final Scene now = new Scene();
    private final Scene[] images = new Scene[IMAGES];
    private final boolean[] imageKept = new boolean[IMAGES];
    private final Pad pad = new Pad();
    private final Matcher matcher = new Matcher();
    private final Shutter shutter = new Shutter();
    private final Picture leftPlate = new Picture();
    private final Picture rightPlate = new Picture();

    public StereoWar() {
        for (int k = 0; k < images.length; k++) {
            images[k] = new Scene();
        }
    }

    // ---- 1 things, pictures

    public int thing(int thing, int place, int pace, int deep) {
        if (!within(thing, 0, THINGS - 1)) {
            return UNKNOWN;
        }
        if (!within(place, 0, LAST_PLACE) || !within(pace, -MOST_PACE, MOST_PACE) || !within(deep, 1, MOST_DEEP)) {
            return OUTSIDE;
        }
        now.putThing(thing, place, pace, deep);
        return Integer.bitCount(now.thingBits());
    }

    public int leave(int thing) {
        Thing gone = now.thingAt(thing);
        if (gone == null) {
            return UNKNOWN;
        }
        gone.there = false;
        return Integer.bitCount(now.thingBits());
    }

    public int focus(int v) {
        if (!within(v, 1, MOST_FOCUS)) {
            return OUTSIDE;
        }
        int before = now.focus;
        now.focus = v;
        return before;
    }

    public int take(int picture, int stand, int minute) {
        if (!within(picture, 0, PICTURES - 1)) {
            return UNKNOWN;
        }
        if (!isStand(stand) || !isMinute(minute)) {
            return OUTSIDE;
        }
        return now.takePicture(picture, stand, minute);
    }

    public int retouch(int picture, int thing, int column) {
        Picture changed = now.pictureAt(picture);
        if (changed == null || !within(thing, 0, THINGS - 1)) {
            return UNKNOWN;
        }
        if (column != NONE && !within(column, 0, LAST_COLUMN)) {
            return OUTSIDE;
        }
        int before = changed.columnOf(thing);
        changed.putColumn(thing, column);
        return before;
    }

    public int burn(int picture) {
        Picture gone = now.pictureAt(picture);
        if (gone == null) {
            return UNKNOWN;
        }
        gone.there = false;
        return Integer.bitCount(now.pictureBits());
    }

    public int say(int sign) {
        if (!within(sign, FIRST_SIGN, LAST_SIGN)) {
            return OUTSIDE;
        }
        return pad.addSign(sign) ? pad.count : FULL;
    }

    public int wipe() {
        int before = pad.count;
        pad.count = 0;
        return before;
    }

    public int fault() {
        return pad.read();
    }

    // ---- 2 albums, pairs

    public int judge(int what) {
        if (!within(what, 0, 3)) {
            return OUTSIDE;
        }
        if (pad.read() != NONE) {
            return NO;
        }
        int wrong = pad.firstWrongPair(now);
        if (what == 0) {
            return wrong;
        }
        if (what == 1) {
            return wrong == NONE ? NONE : pad.whyNot(wrong, now);
        }
        if (wrong != NONE) {
            return STATE;
        }
        return what == 2 ? pad.pairs : pad.turns + 1;
    }

    public int kinds(int what) {
        if (!within(what, 0, 5)) {
            return OUTSIDE;
        }
        if (pad.read() != NONE) {
            return NO;
        }
        if (pad.firstWrongPair(now) != NONE) {
            return STATE;
        }
        if (what == 4) {
            return pad.firstNotGood(now);
        }
        if (what == 5) {
            return pad.countOfKind(GOOD, now) + pad.countOfKind(TURNED, now);
        }
        return pad.countOfKind(what, now);
    }

    public int kind(int left, int right) {
        return now.kindOfPair(left, right);
    }

    public int shift(int left, int right, int thing) {
        Picture one = now.pictureAt(left);
        Picture other = now.pictureAt(right);
        if (one == null || other == null || left == right || !within(thing, 0, THINGS - 1)) {
            return UNKNOWN;
        }
        return one.sharesWith(other, thing) ? one.shiftTo(other, thing) + SHIFT_ZERO : STATE;
    }

    public int near(int left, int right, int i) {
        Picture one = now.pictureAt(left);
        Picture other = now.pictureAt(right);
        if (one == null || other == null || left == right) {
            return UNKNOWN;
        }
        return i == ALL ? one.countSharedWith(other) : one.nearestWith(other, i);
    }

    // ---- 3 matches, stands

    public int match(int set, int picture) {
        if ((set & ~now.pictureBits()) != 0) {
            return UNKNOWN;
        }
        if (picture != ALL && (!within(picture, 0, PICTURES - 1) || !hasBit(set, picture))) {
            return UNKNOWN;
        }
        matcher.prepare(now, set);
        return picture == ALL ? matcher.mostPairs(set) : matcher.partnerOf(picture, set);
    }

    public int stood(int picture, int i) {
        Picture seen = now.pictureAt(picture);
        if (seen == null) {
            return UNKNOWN;
        }
        return i == ALL ? Search.countStands(now, seen) : Search.standAt(now, seen, i);
    }

    public int forged(int picture, int what) {
        Picture seen = now.pictureAt(picture);
        if (seen == null) {
            return UNKNOWN;
        }
        if (!within(what, 0, 1)) {
            return OUTSIDE;
        }
        int fewest = Search.fewestForged(now, seen);
        return what == 0 ? Integer.bitCount(fewest) : fewest;
    }

    public int ahead(int picture, int other) {
        Picture one = now.pictureAt(picture);
        Picture two = now.pictureAt(other);
        if (one == null || two == null || picture == other) {
            return UNKNOWN;
        }
        int oneFirst = Search.firstMinute(now, one);
        int twoFirst = Search.firstMinute(now, two);
        if (oneFirst == NONE || twoFirst == NONE) {
            return NONE;
        }
        if (Search.lastMinute(now, one) < twoFirst) {
            return 1;
        }
        return Search.lastMinute(now, two) < oneFirst ? 2 : 0;
    }

    public int missing(int picture, int thing, int what) {
        Picture seen = now.pictureAt(picture);
        if (seen == null || now.thingAt(thing) == null) {
            return UNKNOWN;
        }
        if (!within(what, 0, 2)) {
            return OUTSIDE;
        }
        long columns = Search.columnsWithout(now, seen, thing);
        if (what == 0) {
            return Long.bitCount(columns);
        }
        return what == 1 ? Search.leastShown(columns) : Search.greatestShown(columns);
    }

    public int eyes() {
        int rows = 0;
        for (int second = 0; second < PICTURES; second++) {
            rows += rowsOfThree(second);
        }
        return rows;
    }

    // ---- 4 late ones, walks

    public long late(int stand, int minute, int step, int k, int t, int kind, int part) {
        if (!isStand(stand) || !isMinute(minute) || !within(step, 1, MOST_STEP) || !within(part, 0, 1)) {
            return GONE + OUTSIDE;
        }
        if (!within(k, 0, MOST_LATE) || !within(t, 0, TENTHS) || !isKind(kind)) {
            return GONE + OUTSIDE;
        }
        shutter.setChances(k, t);
        now.expose(leftPlate, stand, minute);
        long upper = 0;
        long lower = 0;
        for (int later = 0; later <= k; later++) {
            now.expose(rightPlate, stand + step, minute + later);
            lower += shutter.waysOf(later);
            if (leftPlate.kindWith(rightPlate) == kind) {
                upper += shutter.waysOf(later);
            }
        }
        long common = greatestDivisor(upper, lower);
        return (part == 0 ? upper : lower) / (common < 1 ? 1 : common);
    }

    public int past(int thing, int stand, int what) {
        Thing walker = now.thingAt(thing);
        if (walker == null) {
            return UNKNOWN;
        }
        if (!isStand(stand) || !within(what, 0, 1)) {
            return OUTSIDE;
        }
        int minutes = 0;
        int first = NONE;
        for (int minute = MINUTES - 1; minute >= 0; minute--) {
            if (walker.columnFrom(stand, minute, now.focus) != NONE) {
                minutes++;
                first = minute;
            }
        }
        return what == 0 ? minutes : first;
    }

    public int best(int minute, int what) {
        if (!isMinute(minute) || !within(what, 0, 1)) {
            return OUTSIDE;
        }
        int bestStand = 0;
        int most = 0;
        for (int stand = 0; stand < STANDS; stand++) {
            int shown = now.countShown(stand, minute);
            if (shown > most) {
                most = shown;
                bestStand = stand;
            }
        }
        return what == 0 ? bestStand : most;
    }

    public int year(int seed, int m, int kind) {
        if (!within(seed, 0, LAST_SEED) || !within(m, 1, MOST_VIEWINGS) || !isKind(kind)) {
            return OUTSIDE;
        }
        int x = seed;
        int viewed = 0;
        for (int viewing = 0; viewing < m; viewing++) {
            x = (DRAW_FACTOR * x + DRAW_MORE) % DRAW_MODULUS;
            if (now.kindOfPair(x % PICTURES, x / PICTURES % PICTURES) == kind) {
                viewed++;
            }
        }
        return viewed;
    }

    public int image(int k) {
        if (!within(k, 0, IMAGES - 1)) {
            return OUTSIDE;
        }
        images[k].copyFrom(now);
        imageKept[k] = true;
        return 1;
    }

    public int restore(int k) {
        if (!within(k, 0, IMAGES - 1)) {
            return OUTSIDE;
        }
        if (!imageKept[k]) {
            return STATE;
        }
        now.copyFrom(images[k]);
        return 1;
    }

    public int told(int what) {
        switch (what) {
            case 0:
                return pad.count;
            case 1:
                return now.thingBits();
            case 2:
                return now.pictureBits();
            case 3:
                return now.focus;
            default:
                return what < 100 ? toldOfThing(what / 10 - 1, what % 10) : toldOfPicture(what / 100 - 1, what % 100);
        }
    }

    private int toldOfThing(int number, int what) {
        Thing asked = now.thingAt(number);
        if (asked == null) {
            return OUTSIDE;
        }
        switch (what) {
            case 0:
                return asked.place;
            case 1:
                return asked.pace + PACE_ZERO;
            case 2:
                return asked.deep;
            default:
                return OUTSIDE;
        }
    }

    private int toldOfPicture(int number, int thing) {
        Picture asked = now.pictureAt(number);
        if (asked == null || !within(thing, 0, THINGS - 1)) {
            return OUTSIDE;
        }
        return asked.columnOf(thing);
    }

    private int rowsOfThree(int second) {
        int rows = 0;
        for (int first = 0; first < PICTURES; first++) {
            if (now.kindOfPair(first, second) != GOOD) {
                continue;
            }
            for (int third = 0; third < PICTURES; third++) {
                if (third != first && now.kindOfPair(second, third) == GOOD) {
                    rows++;
                }
            }
        }
        return rows;
    }

    private static boolean within(int number, int least, int most) {
        return least <= number && number <= most;
    }

    private static boolean isStand(int number) {
        return within(number, 0, STANDS - 1);
    }

    private static boolean isMinute(int number) {
        return within(number, 0, MINUTES - 1);
    }

    private static boolean isKind(int number) {
        return within(number, GOOD, CONFUSED);
    }

    private static boolean hasBit(int set, int number) {
        return (set >> number & 1) == 1;
    }

    /** The greatest number that divides both; of 0 and a number, that number. */
    private static long greatestDivisor(long one, long other) {
        long a = one;
        long b = other;
        // Euclid's steps on longs are fewer than a hundred.
        for (int step = 0; step < 1000 && b != 0; step++) {
            long over = a % b;
            a = b;
            b = over;
        }
        return a;
    }

    /** Something that stands or walks before the camera. */
    private static final class Thing {
        private boolean there;
        private int place;
        private int pace;
        private int deep;

        /** The column at which a camera shows it, or NONE. */
        private int columnFrom(int stand, int minute, int focus) {
            if (deep < 1) {
                return NONE;
            }
            int column = MIDDLE_COLUMN + focus * (place + pace * minute - stand) / deep;
            return within(column, 0, LAST_COLUMN) ? column : NONE;
        }

        private void copyFrom(Thing other) {
            there = other.there;
            place = other.place;
            pace = other.pace;
            deep = other.deep;
        }
    }

    /** A row of columns, one for each thing's number. */
    private static final class Picture {
        private boolean there;
        private final int[] columns = new int[THINGS];

        private int columnOf(int thing) {
            return within(thing, 0, columns.length - 1) ? columns[thing] : NONE;
        }

        private void putColumn(int thing, int column) {
            if (within(thing, 0, columns.length - 1)) {
                columns[thing] = column;
            }
        }

        private int shownBits() {
            int bits = 0;
            for (int thing = 0; thing < columns.length; thing++) {
                if (columns[thing] != NONE) {
                    bits |= 1 << thing;
                }
            }
            return bits;
        }

        private void copyFrom(Picture other) {
            there = other.there;
            for (int thing = 0; thing < columns.length; thing++) {
                columns[thing] = other.columnOf(thing);
            }
        }

        private boolean sharesWith(Picture right, int thing) {
            return columnOf(thing) != NONE && right.columnOf(thing) != NONE;
        }

        private int shiftTo(Picture right, int thing) {
            return columnOf(thing) - right.columnOf(thing);
        }

        private int kindWith(Picture right) {
            boolean above = false;
            boolean below = false;
            for (int thing = 0; thing < columns.length; thing++) {
                if (sharesWith(right, thing)) {
                    above |= shiftTo(right, thing) > 0;
                    below |= shiftTo(right, thing) < 0;
                }
            }
            if (above) {
                return below ? CONFUSED : GOOD;
            }
            return below ? TURNED : FLAT;
        }

        private int countSharedWith(Picture right) {
            return Integer.bitCount(shownBits() & right.shownBits());
        }

        /** The thing that has just so many before it by shift, or NONE. */
        private int nearestWith(Picture right, int before) {
            for (int thing = 0; thing < columns.length; thing++) {
                if (sharesWith(right, thing) && countBefore(right, thing) == before) {
                    return thing;
                }
            }
            return NONE;
        }

        private int countBefore(Picture right, int thing) {
            int shift = shiftTo(right, thing);
            int count = 0;
            for (int other = 0; other < columns.length; other++) {
                if (sharesWith(right, other)) {
                    int otherShift = shiftTo(right, other);
                    if (otherShift > shift || otherShift == shift && other < thing) {
                        count++;
                    }
                }
            }
            return count;
        }
    }

    /** All that an image keeps: things, pictures and the focus. */
    private static final class Scene {
        private final Thing[] things = new Thing[THINGS];
        private final Picture[] pictures = new Picture[PICTURES];
        private int focus = FIRST_FOCUS;

        private Scene() {
            for (int i = 0; i < things.length; i++) {
                things[i] = new Thing();
            }
            for (int i = 0; i < pictures.length; i++) {
                pictures[i] = new Picture();
            }
        }

        private void copyFrom(Scene other) {
            focus = other.focus;
            for (int i = 0; i < THINGS; i++) {
                things[i].copyFrom(other.things[i]);
            }
            for (int i = 0; i < PICTURES; i++) {
                pictures[i].copyFrom(other.pictures[i]);
            }
        }

        /** The thing of that number, or null if it is not there. */
        private Thing thingAt(int number) {
            if (!within(number, 0, things.length - 1)) {
                return null;
            }
            return things[number].there ? things[number] : null;
        }

        /** The picture of that number, or null if it is not there. */
        private Picture pictureAt(int number) {
            if (!within(number, 0, pictures.length - 1)) {
                return null;
            }
            return pictures[number].there ? pictures[number] : null;
        }

        private void putThing(int number, int place, int pace, int deep) {
            if (!within(number, 0, things.length - 1)) {
                return;
            }
            Thing put = things[number];
            put.there = true;
            put.place = place;
            put.pace = pace;
            put.deep = deep;
        }

        /** Takes a picture: the bits of the things that it shows. */
        private int takePicture(int number, int stand, int minute) {
            if (!within(number, 0, pictures.length - 1)) {
                return UNKNOWN;
            }
            Picture taken = pictures[number];
            taken.there = true;
            expose(taken, stand, minute);
            return taken.shownBits();
        }

        private void expose(Picture plate, int stand, int minute) {
            for (int number = 0; number < THINGS; number++) {
                plate.putColumn(number, columnOf(number, stand, minute));
            }
        }

        /** Where a camera shows a thing; NONE too for one that is not there. */
        private int columnOf(int number, int stand, int minute) {
            Thing seen = thingAt(number);
            return seen == null ? NONE : seen.columnFrom(stand, minute, focus);
        }

        private int countShown(int stand, int minute) {
            int count = 0;
            for (int number = 0; number < THINGS; number++) {
                if (columnOf(number, stand, minute) != NONE) {
                    count++;
                }
            }
            return count;
        }

        private int thingBits() {
            int bits = 0;
            for (int i = 0; i < things.length; i++) {
                if (things[i].there) {
                    bits |= 1 << i;
                }
            }
            return bits;
        }

        private int pictureBits() {
            int bits = 0;
            for (int i = 0; i < pictures.length; i++) {
                if (pictures[i].there) {
                    bits |= 1 << i;
                }
            }
            return bits;
        }

        /** The kind of two pictures, or UNKNOWN if there are not both or they are one. */
        private int kindOfPair(int left, int right) {
            Picture one = pictureAt(left);
            Picture other = pictureAt(right);
            if (one == null || other == null || left == right) {
                return UNKNOWN;
            }
            return one.kindWith(other);
        }
    }

    /** The signs of an album, and its pairs once they are read. */
    private static final class Pad {
        private final int[] signs = new int[SIGNS];
        private int count;
        private final int[] lefts = new int[SIGNS / 2];
        private final int[] rights = new int[SIGNS / 2];
        private int pairs;
        private int turns;

        private boolean addSign(int sign) {
            if (!within(count, 0, signs.length - 1)) {
                return false;
            }
            signs[count] = sign;
            count++;
            return true;
        }

        /** Reads pairs and turned pages up to the fault; the fault, or NONE. */
        private int read() {
            pairs = 0;
            turns = 0;
            int left = NONE;
            for (int at = 0; at < count && at < signs.length; at++) {
                int letter = signs[at] - 'a';
                if (within(letter, 0, PICTURES - 1)) {
                    if (left == NONE) {
                        left = letter;
                    } else {
                        addPair(left, letter);
                        left = NONE;
                    }
                } else if (signs[at] == '/' && left == NONE) {
                    turns++;
                } else {
                    return at;
                }
            }
            return left == NONE ? NONE : count;
        }

        private void addPair(int left, int right) {
            if (within(pairs, 0, lefts.length - 1) && pairs < rights.length) {
                lefts[pairs] = left;
                rights[pairs] = right;
                pairs++;
            }
        }

        private int leftOf(int pair) {
            return within(pair, 0, lefts.length - 1) ? lefts[pair] : NONE;
        }

        private int rightOf(int pair) {
            return within(pair, 0, rights.length - 1) ? rights[pair] : NONE;
        }

        private int firstWrongPair(Scene scene) {
            for (int pair = 0; pair < pairs; pair++) {
                if (whyNot(pair, scene) != CAN_BE) {
                    return pair;
                }
            }
            return NONE;
        }

        /** The least reason for which a pair can not be, or CAN_BE. */
        private int whyNot(int pair, Scene scene) {
            int left = leftOf(pair);
            int right = rightOf(pair);
            if (scene.pictureAt(left) == null || scene.pictureAt(right) == null) {
                return NO_PICTURE;
            }
            if (left == right) {
                return BOTH_ONE;
            }
            for (int before = 0; before < pair; before++) {
                if (isOf(left, before) || isOf(right, before)) {
                    return SEEN_AHEAD;
                }
            }
            return CAN_BE;
        }

        private boolean isOf(int picture, int pair) {
            return leftOf(pair) == picture || rightOf(pair) == picture;
        }

        private int countOfKind(int kind, Scene scene) {
            int found = 0;
            for (int pair = 0; pair < pairs; pair++) {
                if (scene.kindOfPair(leftOf(pair), rightOf(pair)) == kind) {
                    found++;
                }
            }
            return found;
        }

        private int firstNotGood(Scene scene) {
            for (int pair = 0; pair < pairs; pair++) {
                if (scene.kindOfPair(leftOf(pair), rightOf(pair)) != GOOD) {
                    return pair;
                }
            }
            return NONE;
        }
    }

    /** Finds the most pairs of a set of pictures that are good one way round or the other. */
    private static final class Matcher {
        private final int[] friends = new int[PICTURES];
        private final int[] most = new int[1 << PICTURES];

        /** Fills the rows for a set and all that is in it. */
        private void prepare(Scene scene, int set) {
            for (int picture = 0; picture < friends.length; picture++) {
                friends[picture] = friendsOf(picture, scene);
            }
            // A set's parts are lesser numbers, so rising order has them ready.
            for (int part = 1; part <= set && part < most.length; part++) {
                most[part] = mostOf(part);
            }
        }

        private static int friendsOf(int picture, Scene scene) {
            int bits = 0;
            for (int other = 0; other < PICTURES; other++) {
                int kind = scene.kindOfPair(picture, other);
                if (kind == GOOD || kind == TURNED) {
                    bits |= 1 << other;
                }
            }
            return bits;
        }

        private int mostOf(int part) {
            int least = leastOf(part);
            int others = part & ~(1 << least);
            int result = mostPairs(others);
            for (int mate = 0; mate < PICTURES; mate++) {
                if (canPair(least, mate, others)) {
                    result = Math.max(result, 1 + mostPairs(others & ~(1 << mate)));
                }
            }
            return result;
        }

        private static int leastOf(int part) {
            return Integer.bitCount((part & -part) - 1);
        }

        private boolean canPair(int picture, int mate, int others) {
            return within(picture, 0, friends.length - 1) && hasBit(friends[picture] & others, mate);
        }

        private int mostPairs(int part) {
            return within(part, 0, most.length - 1) ? most[part] : 0;
        }

        /** With whom a picture is in the first row of the most pairs, or NONE. */
        private int partnerOf(int asked, int set) {
            int left = set;
            for (int picture = 0; picture < PICTURES; picture++) {
                if (!hasBit(left, picture)) {
                    continue;
                }
                int mate = firstMate(picture, left);
                if (picture == asked) {
                    return mate;
                }
                if (mate == asked) {
                    return picture;
                }
                left &= ~(1 << picture);
                if (mate != NONE) {
                    left &= ~(1 << mate);
                }
            }
            return NONE;
        }

        /** The least mate by which the set still has its most pairs; NONE, behind all others. */
        private int firstMate(int picture, int set) {
            int others = set & ~(1 << picture);
            for (int mate = 0; mate < PICTURES; mate++) {
                if (canPair(picture, mate, others) && 1 + mostPairs(others & ~(1 << mate)) == mostPairs(set)) {
                    return mate;
                }
            }
            return NONE;
        }
    }

    /** Looks through all stands and minutes for those by which a picture is as it is. */
    private static final class Search {
        private static boolean fits(Scene scene, Picture picture, int stand, int minute, int leftOut) {
            for (int thing = 0; thing < THINGS; thing++) {
                if (thing != leftOut && scene.columnOf(thing, stand, minute) != picture.columnOf(thing)) {
                    return false;
                }
            }
            return true;
        }

        private static int countStands(Scene scene, Picture picture) {
            int count = 0;
            for (int minute = 0; minute < MINUTES; minute++) {
                count += countStandsIn(scene, picture, minute);
            }
            return count;
        }

        private static int countStandsIn(Scene scene, Picture picture, int minute) {
            int count = 0;
            for (int stand = 0; stand < STANDS; stand++) {
                if (fits(scene, picture, stand, minute, NOTHING_LEFT_OUT)) {
                    count++;
                }
            }
            return count;
        }

        /** The i-th stand and minute as one number, or NONE. */
        private static int standAt(Scene scene, Picture picture, int i) {
            if (!within(i, 0, STANDS * MINUTES - 1)) {
                return NONE;
            }
            int before = 0;
            for (int minute = 0; minute < MINUTES; minute++) {
                for (int stand = 0; stand < STANDS; stand++) {
                    if (!fits(scene, picture, stand, minute, NOTHING_LEFT_OUT)) {
                        continue;
                    }
                    if (before == i) {
                        return 100 * minute + stand;
                    }
                    before++;
                }
            }
            return NONE;
        }

        private static int firstMinute(Scene scene, Picture picture) {
            for (int minute = 0; minute < MINUTES; minute++) {
                if (countStandsIn(scene, picture, minute) > 0) {
                    return minute;
                }
            }
            return NONE;
        }

        private static int lastMinute(Scene scene, Picture picture) {
            for (int minute = MINUTES - 1; minute >= 0; minute--) {
                if (countStandsIn(scene, picture, minute) > 0) {
                    return minute;
                }
            }
            return NONE;
        }

        /** The fewest things, least as bits, but for which a picture fits some stand and minute. */
        private static int fewestForged(Scene scene, Picture picture) {
            int fewest = (1 << THINGS) - 1;
            for (int minute = 0; minute < MINUTES; minute++) {
                for (int stand = 0; stand < STANDS; stand++) {
                    int wrong = differing(scene, picture, stand, minute);
                    int more = Integer.bitCount(wrong) - Integer.bitCount(fewest);
                    if (more < 0 || more == 0 && wrong < fewest) {
                        fewest = wrong;
                    }
                }
            }
            return fewest;
        }

        private static int differing(Scene scene, Picture picture, int stand, int minute) {
            int bits = 0;
            for (int thing = 0; thing < THINGS; thing++) {
                if (scene.columnOf(thing, stand, minute) != picture.columnOf(thing)) {
                    bits |= 1 << thing;
                }
            }
            return bits;
        }

        /** As bits, the columns that a thing would have by all others; the bit behind the last is NONE. */
        private static long columnsWithout(Scene scene, Picture picture, int thing) {
            long columns = 0;
            for (int minute = 0; minute < MINUTES; minute++) {
                for (int stand = 0; stand < STANDS; stand++) {
                    if (fits(scene, picture, stand, minute, thing)) {
                        int column = scene.columnOf(thing, stand, minute);
                        columns |= 1L << (column == NONE ? LAST_COLUMN + 1 : column);
                    }
                }
            }
            return columns;
        }

        private static int leastShown(long columns) {
            for (int column = 0; column <= LAST_COLUMN; column++) {
                if ((columns >> column & 1) == 1) {
                    return column;
                }
            }
            return NONE;
        }

        private static int greatestShown(long columns) {
            for (int column = LAST_COLUMN; column >= 0; column--) {
                if ((columns >> column & 1) == 1) {
                    return column;
                }
            }
            return NONE;
        }
    }

    /** In how many ways of all a shutter is so many minutes late. */
    private static final class Shutter {
        private final long[] ways = new long[MOST_LATE + 1];

        private void setChances(int times, int tenths) {
            for (int later = 0; later < ways.length; later++) {
                ways[later] = 0;
            }
            ways[0] = 1;
            for (int time = 0; time < times && time < MOST_LATE; time++) {
                // From behind, so that each number is still the one of a time less.
                for (int later = ways.length - 1; later > 0; later--) {
                    ways[later] = ways[later] * (TENTHS - tenths) + ways[later - 1] * tenths;
                }
                ways[0] *= TENTHS - tenths;
            }
        }

        private long waysOf(int later) {
            return within(later, 0, ways.length - 1) ? ways[later] : 0;
        }
    }
}
