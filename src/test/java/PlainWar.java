import java.math.BigInteger;
import java.util.ArrayList;
import java.util.Arrays;
import java.util.HashSet;
import java.util.List;
import java.util.Map;
import java.util.Set;
import java.util.TreeMap;
import java.util.TreeSet;
import java.util.regex.Matcher;
import java.util.regex.Pattern;

/**
 * A second program for the same document, written apart from StereoWar by other means: maps, sorted
 * lists, all rows tried out, all outcomes walked through. It is slow and makes objects freely.
 */
final class PlainWar {
    private static final int UNKNOWN = -1, OUTSIDE = -2, STATE = -3, FULL = -4, NO = -5, NONE = -6;
    private static final Pattern STANDING = Pattern.compile("(?:/|[a-j][a-j])*+([a-j])?+");

    private record Kept(Map<Integer, int[]> things, Map<Integer, int[]> pictures, int focus) {
    }

    private TreeMap<Integer, int[]> things = new TreeMap<>();
    private TreeMap<Integer, int[]> pictures = new TreeMap<>();
    private int focus = 20;
    private final StringBuilder pad = new StringBuilder();
    private final Map<Integer, Kept> images = new TreeMap<>();

    private static boolean out(int number, int least, int most) {
        return number < least || number > most;
    }

    private int column(int[] thing, int stand, int minute) {
        int upper = focus * (thing[0] + thing[1] * minute - stand);
        int cut = Integer.signum(upper) * Math.floorDiv(Math.abs(upper), thing[2]);
        return out(30 + cut, 0, 60) ? NONE : 30 + cut;
    }

    private int[] shot(int stand, int minute) {
        int[] row = new int[6];
        Arrays.fill(row, NONE);
        things.forEach((number, thing) -> row[number] = column(thing, stand, minute));
        return row;
    }

    private static int bits(Iterable<Integer> numbers) {
        int bits = 0;
        for (int number : numbers) {
            bits += 1 << number;
        }
        return bits;
    }

    private static List<Integer> shown(int[] row) {
        List<Integer> result = new ArrayList<>();
        for (int number = 0; number < 6; number++) {
            if (row[number] != NONE) {
                result.add(number);
            }
        }
        return result;
    }

    private static List<Integer> inBoth(int[] left, int[] right) {
        List<Integer> result = shown(left);
        result.retainAll(shown(right));
        return result;
    }

    private static int kindOf(int[] left, int[] right) {
        TreeSet<Integer> shifts = new TreeSet<>(Set.of(0));
        inBoth(left, right).forEach(number -> shifts.add(left[number] - right[number]));
        if (shifts.size() == 1) {
            return 1;
        }
        return shifts.first() == 0 ? 0 : shifts.last() == 0 ? 2 : 3;
    }

    private boolean notBoth(int left, int right) {
        return !pictures.containsKey(left) || !pictures.containsKey(right) || left == right;
    }

    int thing(int thing, int place, int pace, int deep) {
        if (out(thing, 0, 5)) {
            return UNKNOWN;
        }
        if (out(place, 0, 99) || out(pace, -9, 9) || out(deep, 1, 20)) {
            return OUTSIDE;
        }
        things.put(thing, new int[] {place, pace, deep});
        return things.size();
    }

    int leave(int thing) {
        return things.remove(thing) == null ? UNKNOWN : things.size();
    }

    int focus(int v) {
        if (out(v, 1, 40)) {
            return OUTSIDE;
        }
        int before = focus;
        focus = v;
        return before;
    }

    int take(int picture, int stand, int minute) {
        if (out(picture, 0, 9)) {
            return UNKNOWN;
        }
        if (out(stand, 0, 99) || out(minute, 0, 99)) {
            return OUTSIDE;
        }
        pictures.put(picture, shot(stand, minute));
        return bits(shown(pictures.get(picture)));
    }

    int retouch(int picture, int thing, int column) {
        if (!pictures.containsKey(picture) || out(thing, 0, 5)) {
            return UNKNOWN;
        }
        if (out(column, 0, 60) && column != NONE) {
            return OUTSIDE;
        }
        int[] row = pictures.get(picture).clone();
        int before = row[thing];
        row[thing] = column;
        pictures.put(picture, row);
        return before;
    }

    int burn(int picture) {
        return pictures.remove(picture) == null ? UNKNOWN : pictures.size();
    }

    int say(int sign) {
        if (out(sign, 33, 126)) {
            return OUTSIDE;
        }
        if (pad.length() == 60) {
            return FULL;
        }
        return pad.append((char) sign).length();
    }

    int wipe() {
        int before = pad.length();
        pad.setLength(0);
        return before;
    }

    int fault() {
        Matcher standing = STANDING.matcher(pad);
        standing.lookingAt();
        if (standing.end() < pad.length()) {
            return standing.end();
        }
        return standing.group(1) == null ? NONE : pad.length();
    }

    private List<int[]> pairs() {
        String letters = pad.toString().replace("/", "");
        List<int[]> result = new ArrayList<>();
        for (int at = 0; at + 1 < letters.length(); at += 2) {
            result.add(new int[] {letters.charAt(at) - 'a', letters.charAt(at + 1) - 'a'});
        }
        return result;
    }

    /** The first pair that can not be and why, or null. */
    private int[] wrong() {
        Set<Integer> seen = new HashSet<>();
        List<int[]> pairs = pairs();
        for (int i = 0; i < pairs.size(); i++) {
            int left = pairs.get(i)[0];
            int right = pairs.get(i)[1];
            if (!pictures.keySet().containsAll(List.of(left, right))) {
                return new int[] {i, 1};
            }
            if (left == right) {
                return new int[] {i, 2};
            }
            boolean isNew = seen.add(left) & seen.add(right);
            if (!isNew) {
                return new int[] {i, 3};
            }
        }
        return null;
    }

    int judge(int what) {
        if (out(what, 0, 3)) {
            return OUTSIDE;
        }
        if (fault() != NONE) {
            return NO;
        }
        int[] wrong = wrong();
        if (what < 2) {
            return wrong == null ? NONE : wrong[what];
        }
        if (wrong != null) {
            return STATE;
        }
        return what == 2 ? pairs().size() : 1 + (int) pad.chars().filter(sign -> sign == '/').count();
    }

    int kinds(int what) {
        if (out(what, 0, 5)) {
            return OUTSIDE;
        }
        if (judge(2) < 0) {
            return judge(2);
        }
        List<Integer> kinds = new ArrayList<>();
        pairs().forEach(pair -> kinds.add(kind(pair[0], pair[1])));
        if (what == 4) {
            for (int i = 0; i < kinds.size(); i++) {
                if (kinds.get(i) != 0) {
                    return i;
                }
            }
            return NONE;
        }
        return (int) kinds.stream().filter(kind -> what == 5 ? kind % 2 == 0 : kind == what).count();
    }

    int kind(int left, int right) {
        return notBoth(left, right) ? UNKNOWN : kindOf(pictures.get(left), pictures.get(right));
    }

    int shift(int left, int right, int thing) {
        if (notBoth(left, right) || out(thing, 0, 5)) {
            return UNKNOWN;
        }
        int[] one = pictures.get(left);
        int[] other = pictures.get(right);
        return inBoth(one, other).contains(thing) ? one[thing] - other[thing] + 100 : STATE;
    }

    int near(int left, int right, int i) {
        if (notBoth(left, right)) {
            return UNKNOWN;
        }
        int[] one = pictures.get(left);
        int[] other = pictures.get(right);
        List<Integer> both = inBoth(one, other);
        both.sort((a, b) -> Integer.compare(one[b] - other[b], one[a] - other[a]));
        if (i == -1) {
            return both.size();
        }
        return out(i, 0, both.size() - 1) ? NONE : both.get(i);
    }

    /** All rows of partners of the pictures from one on (10: alone), each added to the list. */
    private void rows(int from, int[] row, List<Integer> set, List<int[]> all) {
        if (from == set.size()) {
            all.add(row.clone());
            return;
        }
        int picture = set.get(from);
        if (row[picture] != 10) {
            rows(from + 1, row, set, all);
            return;
        }
        rows(from + 1, row, set, all);
        for (int next = from + 1; next < set.size(); next++) {
            int mate = set.get(next);
            boolean good = kind(picture, mate) == 0 || kind(mate, picture) == 0;
            if (good && row[mate] == 10) {
                row[picture] = mate;
                row[mate] = picture;
                rows(from + 1, row, set, all);
                row[picture] = 10;
                row[mate] = 10;
            }
        }
    }

    private static int pairsOf(int[] row) {
        return (int) Arrays.stream(row).filter(mate -> mate != 10).count() / 2;
    }

    int match(int set, int picture) {
        List<Integer> members = new ArrayList<>();
        for (int number = 0; number < 32; number++) {
            if ((set >>> number & 1) == 1) {
                members.add(number);
            }
        }
        if (!pictures.keySet().containsAll(members) || picture != -1 && !members.contains(picture)) {
            return UNKNOWN;
        }
        int[] alone = new int[10];
        Arrays.fill(alone, 10);
        List<int[]> all = new ArrayList<>();
        rows(0, alone, members, all);
        int[] first = alone;
        for (int[] row : all) {
            int more = pairsOf(row) - pairsOf(first);
            if (more > 0 || more == 0 && Arrays.compare(row, first) < 0) {
                first = row;
            }
        }
        if (picture == -1) {
            return pairsOf(first);
        }
        return first[picture] == 10 ? NONE : first[picture];
    }

    private List<Integer> stands(int[] row, int letBe) {
        List<Integer> result = new ArrayList<>();
        for (int at = 0; at < 10000; at++) {
            int[] shot = shot(at % 100, at / 100);
            boolean fits = true;
            for (int number = 0; number < 6; number++) {
                fits &= (letBe >> number & 1) == 1 || shot[number] == row[number];
            }
            if (fits) {
                result.add(at);
            }
        }
        return result;
    }

    int stood(int picture, int i) {
        if (!pictures.containsKey(picture)) {
            return UNKNOWN;
        }
        List<Integer> stands = stands(pictures.get(picture), 0);
        if (i == -1) {
            return stands.size();
        }
        return out(i, 0, stands.size() - 1) ? NONE : stands.get(i);
    }

    int forged(int picture, int what) {
        if (!pictures.containsKey(picture)) {
            return UNKNOWN;
        }
        if (out(what, 0, 1)) {
            return OUTSIDE;
        }
        for (int many = 0; many <= 6; many++) {
            for (int letBe = 0; letBe < 64; letBe++) {
                if (Integer.bitCount(letBe) == many && !stands(pictures.get(picture), letBe).isEmpty()) {
                    return what == 0 ? many : letBe;
                }
            }
        }
        throw new IllegalStateException("all things let be, and still no stand");
    }

    int ahead(int picture, int other) {
        if (notBoth(picture, other)) {
            return UNKNOWN;
        }
        List<Integer> one = stands(pictures.get(picture), 0);
        List<Integer> two = stands(pictures.get(other), 0);
        if (one.isEmpty() || two.isEmpty()) {
            return NONE;
        }
        if (one.stream().allMatch(a -> a / 100 < two.get(0) / 100)) {
            return 1;
        }
        return two.stream().allMatch(b -> b / 100 < one.get(0) / 100) ? 2 : 0;
    }

    int missing(int picture, int thing, int what) {
        if (!pictures.containsKey(picture) || !things.containsKey(thing)) {
            return UNKNOWN;
        }
        if (out(what, 0, 2)) {
            return OUTSIDE;
        }
        TreeSet<Integer> columns = new TreeSet<>();
        for (int at : stands(pictures.get(picture), 1 << thing)) {
            columns.add(column(things.get(thing), at % 100, at / 100));
        }
        if (what == 0) {
            return columns.size();
        }
        columns.remove(NONE);
        if (columns.isEmpty()) {
            return NONE;
        }
        return what == 1 ? columns.first() : columns.last();
    }

    int eyes() {
        int rows = 0;
        for (int number = 0; number < 1000; number++) {
            int first = number / 100;
            int second = number / 10 % 10;
            int third = number % 10;
            if (first != third && kind(first, second) == 0 && kind(second, third) == 0) {
                rows++;
            }
        }
        return rows;
    }

    /** How many of 10 to the times outcomes make a pair of the kind, so many minutes later already. */
    private long outcomes(int[] left, int stand, int minute, int times, int tenths, int kind) {
        if (times == 0) {
            return kindOf(left, shot(stand, minute)) == kind ? 1 : 0;
        }
        return tenths * outcomes(left, stand, minute + 1, times - 1, tenths, kind)
            + (10 - tenths) * outcomes(left, stand, minute, times - 1, tenths, kind);
    }

    long late(int stand, int minute, int step, int k, int t, int kind, int part) {
        boolean refused = out(stand, 0, 99) || out(minute, 0, 99) || out(step, 1, 40) || out(k, 0, 8)
            || out(t, 0, 10) || out(kind, 0, 3) || out(part, 0, 1);
        if (refused) {
            return -1000000000000000002L;
        }
        BigInteger upper = BigInteger.valueOf(outcomes(shot(stand, minute), stand + step, minute, k, t, kind));
        BigInteger lower = BigInteger.TEN.pow(k);
        return (part == 0 ? upper : lower).divide(upper.gcd(lower)).longValueExact();
    }

    private List<Integer> minutes(int thing, int stand) {
        List<Integer> result = new ArrayList<>();
        for (int minute = 0; minute < 100; minute++) {
            if (shot(stand, minute)[thing] != NONE) {
                result.add(minute);
            }
        }
        return result;
    }

    int past(int thing, int stand, int what) {
        if (!things.containsKey(thing)) {
            return UNKNOWN;
        }
        if (out(stand, 0, 99) || out(what, 0, 1)) {
            return OUTSIDE;
        }
        List<Integer> minutes = minutes(thing, stand);
        if (what == 0) {
            return minutes.size();
        }
        return minutes.isEmpty() ? NONE : minutes.get(0);
    }

    int best(int minute, int what) {
        if (out(minute, 0, 99) || out(what, 0, 1)) {
            return OUTSIDE;
        }
        for (int many = 6; many >= 0; many--) {
            for (int stand = 0; stand < 100; stand++) {
                if (shown(shot(stand, minute)).size() == many) {
                    return what == 0 ? stand : many;
                }
            }
        }
        throw new IllegalStateException("no stand shows any number of things");
    }

    int year(int seed, int m, int kind) {
        if (out(seed, 0, 9999) || out(m, 1, 99) || out(kind, 0, 3)) {
            return OUTSIDE;
        }
        BigInteger x = BigInteger.valueOf(seed);
        int result = 0;
        for (int viewing = 0; viewing < m; viewing++) {
            x = x.multiply(BigInteger.valueOf(75)).add(BigInteger.valueOf(74)).mod(BigInteger.valueOf(65537));
            BigInteger[] parts = x.divideAndRemainder(BigInteger.TEN);
            if (kind(parts[1].intValue(), parts[0].mod(BigInteger.TEN).intValue()) == kind) {
                result++;
            }
        }
        return result;
    }

    int image(int k) {
        if (out(k, 0, 1)) {
            return OUTSIDE;
        }
        // Rows are never changed in place, so that the maps alone must be copied.
        images.put(k, new Kept(new TreeMap<>(things), new TreeMap<>(pictures), focus));
        return 1;
    }

    int restore(int k) {
        if (out(k, 0, 1)) {
            return OUTSIDE;
        }
        if (!images.containsKey(k)) {
            return STATE;
        }
        things = new TreeMap<>(images.get(k).things());
        pictures = new TreeMap<>(images.get(k).pictures());
        focus = images.get(k).focus();
        return 1;
    }

    int told(int what) {
        if (!out(what, 0, 3)) {
            return new int[] {pad.length(), bits(things.keySet()), bits(pictures.keySet()), focus}[what];
        }
        for (int thing : things.keySet()) {
            int[] of = things.get(thing);
            if (!out(what - 10 * (1 + thing), 0, 2)) {
                return new int[] {of[0], of[1] + 9, of[2]}[what - 10 * (1 + thing)];
            }
        }
        for (int picture : pictures.keySet()) {
            if (!out(what - 100 * (1 + picture), 0, 5)) {
                return pictures.get(picture)[what - 100 * (1 + picture)];
            }
        }
        return OUTSIDE;
    }
}
