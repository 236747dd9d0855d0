import java.math.BigInteger;
import java.util.ArrayList;
import java.util.Comparator;
import java.util.List;
import java.util.TreeMap;
import java.util.regex.Matcher;
import java.util.regex.Pattern;

/** The document once more, slow and plain: it tries every set, every row of acts, one after another. */
final class Model {
    static final int BAD = -1, STATE = -2, FULL = -3, NONE = -9, NO = -1000000;

    private static final Pattern TOKEN = Pattern.compile("[a-z]+|[0-9]+|;|[^ ]", Pattern.DOTALL);

    record Shot(int stick, int bow, int archer, int x, int y) {
        int by(int what) {
            return new int[] {stick, bow, archer, x, y}[what];
        }
    }

    record Kept(List<int[]> sticks, List<Shot> shots, int lot) { }

    private final StringBuilder text = new StringBuilder();
    // A stick is LENGTH, WEIGHT, STIFF 0, STIFF 1, TIP, FEATHER, NOTCH; a bow DRAW, WIDE; an archer AIM, WANDER.
    private List<int[]> sticks = new ArrayList<>(), bows = new ArrayList<>(), archers = new ArrayList<>();
    private List<Shot> shots = new ArrayList<>();
    private final int[] tunes = {4, 15, 10, 0};
    private final Kept[] images = new Kept[2];
    private int lot = 1;
    private long trace;

    private static boolean in(int v, int least, int most) {
        return least <= v && v <= most;
    }

    private boolean noStick(int i) {
        return !in(i, 0, sticks.size() - 1);
    }

    private boolean noBow(int b) {
        return !in(b, 0, bows.size() - 1);
    }

    int type(long v, int n) {
        if (!in(n, 1, 8)) return BAD;
        if (text.length() + n > 400) return FULL;
        for (int k = 8 - n; k < 8; k++) text.append((char) (java.nio.ByteBuffer.allocate(8).putLong(v).array()[k] & 255));
        return text.length();
    }

    int clear() {
        int before = text.length();
        text.setLength(0);
        return before;
    }

    /** What an item is made of, by its first word: words, numbers as least-most, and the end. */
    private static String[] shape(String word) {
        switch (word) {
            case "stick": return new String[] {"80-130", "200-600", "20-99", "20-99", "0-200", "0-9", ";"};
            case "bow": return new String[] {"20-70", "0-9", ";"};
            case "archer": return new String[] {"left|right", "0-30", "0-20", ";"};
            default: return null;
        }
    }

    private static boolean fits(String token, String shape) {
        if (!shape.contains("-")) return token.matches(shape);
        if (!token.matches("0|[1-9][0-9]{0,2}")) return false;
        String[] ends = shape.split("-");
        return in(Integer.parseInt(token), Integer.parseInt(ends[0]), Integer.parseInt(ends[1]));
    }

    int arrows() {
        List<int[]> newSticks = new ArrayList<>(), newBows = new ArrayList<>(), newArchers = new ArrayList<>();
        Matcher m = TOKEN.matcher(text);
        String word = null;
        String[] shape = null;
        List<String> parts = new ArrayList<>();
        int items = 0;
        while (m.find()) {
            String token = m.group();
            if (shape == null) {
                shape = shape(token);
                word = token;
                parts.clear();
                boolean full = token.equals("stick") && newSticks.size() == 12
                    || token.equals("bow") && newBows.size() == 3 || token.equals("archer") && newArchers.size() == 3;
                if (shape == null || full) return -10 - m.start();
                continue;
            }
            if (!fits(token, shape[parts.size()])) return -10 - m.start();
            parts.add(token);
            if (parts.size() < shape.length) continue;
            items++;
            shape = null;
            if (word.equals("stick")) newSticks.add(numbers(parts, 0, 7));
            if (word.equals("bow")) newBows.add(numbers(parts, 0, 2));
            if (word.equals("archer")) {
                int[] archer = numbers(parts, 1, 2);
                if (parts.get(0).equals("left")) archer[0] = -archer[0];
                newArchers.add(archer);
            }
        }
        if (shape != null) return -10 - text.length();
        sticks = newSticks;
        bows = newBows;
        archers = newArchers;
        shots = new ArrayList<>();
        images[0] = null;
        images[1] = null;
        text.setLength(0);
        return items;
    }

    private static int[] numbers(List<String> parts, int from, int many) {
        int[] row = new int[many];
        for (int k = from; k < parts.size() - 1; k++) row[k - from] = Integer.parseInt(parts.get(k));
        return row;
    }

    int stick(int i, int what) {
        return noStick(i) || !in(what, 0, 6) ? BAD : sticks.get(i)[what];
    }

    int bow(int b, int what) {
        if (noBow(b) || !in(what, 0, 2)) return BAD;
        return what == 2 ? need(bows.get(b)) : bows.get(b)[what];
    }

    int archer(int a, int what) {
        return !in(a, 0, archers.size() - 1) || !in(what, 0, 1) ? NO : archers.get(a)[what];
    }

    int tune(int what, int v) {
        int[][] range = {{0, 20}, {0, 60}, {0, 30}, {-9, 9}};
        if (!in(what, 0, 3) || !in(v, range[what][0], range[what][1])) return NO;
        int before = tunes[what];
        tunes[what] = v;
        return before;
    }

    private static int need(int[] bow) {
        return bow[0] + bow[1] + bow[1];
    }

    private static int spine(int[] s) {
        return s[2 + s[6]] * 112 / s[0] - s[4] / 10;
    }

    private int kind(int off) {
        if (off >= -tunes[0] && off <= tunes[0]) return 1;
        if (off > tunes[1] || -off > tunes[1]) return 4;
        return off > 0 ? 2 : 5;
    }

    private int bare(int off) {
        int once = off * tunes[2] / 10;
        return kind(off) == 1 ? 0 : kind(off) == 4 ? -once - once : -once;
    }

    private int goes(int[] s, int[] bow) {
        return bare(spine(s) - need(bow)) * (10 - s[5]) / 10 + tunes[3] * 600 / (s[1] + s[4]);
    }

    private static int drop(int[] s, int[] bow) {
        return (s[1] + s[4]) * 10 / bow[0] + s[5];
    }

    private static boolean mayCut(int[] s) {
        return s[0] - 1 >= 80;
    }

    private static boolean mayScrape(int[] s) {
        return s[2] - 1 >= 20 && s[3] - 1 >= 20 && s[1] - 2 >= 200;
    }

    private static boolean mayLoad(int[] s) {
        return s[4] + 5 <= 200;
    }

    private static void scrapeOne(int[] s) {
        s[1] -= 2;
        s[2] -= 1;
        s[3] -= 1;
    }

    int cut(int i) {
        if (noStick(i)) return BAD;
        if (!mayCut(sticks.get(i))) return STATE;
        return --sticks.get(i)[0];
    }

    int scrape(int i) {
        if (noStick(i)) return BAD;
        if (!mayScrape(sticks.get(i))) return STATE;
        scrapeOne(sticks.get(i));
        return sticks.get(i)[1];
    }

    int load(int i) {
        if (noStick(i)) return BAD;
        if (!mayLoad(sticks.get(i))) return STATE;
        return sticks.get(i)[4] += 5;
    }

    int turn(int i) {
        return noStick(i) ? BAD : (sticks.get(i)[6] ^= 1);
    }

    int least(int i, int bow, int a, int b, int what) {
        if (noStick(i) || noBow(bow) || a < 200 || b < a || b > 800 || !in(what, 0, 4)) return BAD;
        List<int[]> found = new ArrayList<>();
        int need = need(bows.get(bow));
        for (int turn = 0; turn <= 1; turn++) {
            int[] cut = sticks.get(i).clone();
            cut[6] ^= turn;
            for (int c = 0; c <= 15; c++) {
                int[] scraped = cut.clone();
                for (int s = 0; s <= 15; s++) {
                    int[] loaded = scraped.clone();
                    for (int l = 0; l <= 15; l++) {
                        int mass = loaded[1] + loaded[4];
                        if (kind(spine(loaded) - need) == 1 && in(mass, a, b)) found.add(new int[] {turn + c + s + l, c, s, l, turn});
                        if (!mayLoad(loaded)) break;
                        loaded[4] += 5;
                    }
                    if (!mayScrape(scraped)) break;
                    scrapeOne(scraped);
                }
                if (!mayCut(cut)) break;
                cut[0]--;
            }
        }
        Comparator<int[]> fewest = Comparator.comparingInt(f -> f[0]);
        return found.stream().min(fewest.thenComparingInt(f -> f[4]).thenComparingInt(f -> f[1]).thenComparingInt(f -> f[2]))
            .map(f -> f[what]).orElse(NONE);
    }

    int flight(int i, int bow, int what) {
        if (noStick(i) || noBow(bow) || !in(what, 0, 5)) return NO;
        int[] s = sticks.get(i), w = bows.get(bow);
        int off = spine(s) - need(w);
        return new int[] {spine(s), off, bare(off), goes(s, w), drop(s, w), kind(off)}[what];
    }

    private static int end(List<Integer> found, int what, int none) {
        if (found.isEmpty()) return none;
        return found.get(what == 0 ? 0 : found.size() - 1);
    }

    int band(int bow, int length, int tip, int what) {
        if (noBow(bow) || !in(length, 80, 130) || !in(tip, 0, 200) || !in(what, 0, 1)) return BAD;
        List<Integer> found = new ArrayList<>();
        for (int stiff = 20; stiff <= 99; stiff++) {
            if (kind(spine(new int[] {length, 0, stiff, 0, tip, 0, 0}) - need(bows.get(bow))) == 1) found.add(stiff);
        }
        return end(found, what, NONE);
    }

    int says(int x, int feather, int what) {
        if (!in(x, -999, 999) || !in(feather, 0, 9) || !in(what, 0, 1)) return NO;
        List<Integer> found = new ArrayList<>();
        for (int off = -60; off <= 60; off++) {
            if (bare(off) * (10 - feather) / 10 == bare(off) + x) found.add(off);
        }
        return end(found, what, NO);
    }

    int alike(int bow, int d, int e, int what) {
        if (noBow(bow) || !in(d, 0, 999) || !in(e, 0, 999) || !in(what, 0, 1)) return BAD;
        int best = bestSet(sticks, bows.get(bow), d, e);
        return what == 0 ? best : Integer.bitCount(best);
    }

    private int bestSet(List<int[]> of, int[] bow, int d, int e) {
        int n = of.size(), best = 0;
        int[] near = new int[n];
        for (int i = 0; i < n; i++) {
            for (int j = 0; j < n; j++) {
                int[] a = of.get(i), b = of.get(j);
                if (Math.abs(goes(a, bow) - goes(b, bow)) <= d && Math.abs(drop(a, bow) - drop(b, bow)) <= e) near[i] |= 1 << j;
            }
        }
        for (int set = 1; set < 1 << n; set++) {
            boolean alike = true;
            for (int i = 0; i < n; i++) alike &= (set >> i & 1) == 0 || (set & near[i]) == set;
            if (alike && Integer.bitCount(set) > Integer.bitCount(best)) best = set;
        }
        return best;
    }

    int turned(int bow, int d, int e) {
        if (noBow(bow) || !in(d, 0, 999) || !in(e, 0, 999)) return BAD;
        int best = 0;
        for (int sides = 0; sides < 1 << sticks.size(); sides++) {
            List<int[]> turned = new ArrayList<>();
            for (int i = 0; i < sticks.size(); i++) {
                int[] s = sticks.get(i).clone();
                s[6] = sides >> i & 1;
                turned.add(s);
            }
            best = Math.max(best, Integer.bitCount(bestSet(turned, bows.get(bow), d, e)));
        }
        return best;
    }

    int wreck(int i, int wide, int what) {
        if (noStick(i) || !in(wide, 0, 9) || !in(what, 0, 1)) return BAD;
        List<Integer> found = new ArrayList<>();
        for (int draw = 20; draw <= 70; draw++) {
            if (kind(spine(sticks.get(i)) - need(new int[] {draw, wide})) == 1) found.add(draw);
        }
        return end(found, what, NONE);
    }

    int feather(int i, int bow, int far) {
        if (noStick(i) || noBow(bow) || !in(far, 0, 99)) return BAD;
        TreeMap<Integer, Integer> bySum = new TreeMap<>();
        for (int f = 9; f >= 0; f--) {
            int[] s = sticks.get(i).clone();
            s[5] = f;
            bySum.put(Math.abs(goes(s, bows.get(bow))) + drop(s, bows.get(bow)) * far / 100, f);
        }
        return bySum.firstEntry().getValue();
    }

    int warm(int bow, int k, int what) {
        if (noBow(bow) || !in(k, 0, 20) || !in(what, 0, 1)) return BAD;
        int[] warm = bows.get(bow).clone();
        warm[0] = warm[0] - k < 1 ? 1 : warm[0] - k;
        int less = 0, more = 0;
        for (int[] s : sticks) {
            boolean was = kind(spine(s) - need(bows.get(bow))) == 1, is = kind(spine(s) - need(warm)) == 1;
            if (was && !is) less++;
            if (!was && is) more++;
        }
        return what == 0 ? less : more;
    }

    int shoot(int i, int bow, int archer) {
        if (noStick(i) || noBow(bow) || !in(archer, 0, archers.size() - 1) || shots.size() == 60) return NO;
        lot = BigInteger.valueOf(lot).multiply(BigInteger.valueOf(1103515245)).add(BigInteger.valueOf(12345)).intValue();
        long unsigned = Integer.toUnsignedLong(lot) / 65536;
        int[] a = archers.get(archer);
        int x = goes(sticks.get(i), bows.get(bow)) + a[0] + (int) (unsigned % (2 * a[1] + 1)) - a[1];
        shots.add(new Shot(i, bow, archer, x, drop(sticks.get(i), bows.get(bow))));
        return x;
    }

    int shot(int k, int what) {
        return !in(k, 0, shots.size() - 1) || !in(what, 0, 4) ? NO : shots.get(k).by(what);
    }

    int wipe() {
        int before = shots.size();
        shots.clear();
        return before;
    }

    int parted() {
        if (shots.isEmpty()) return NONE;
        // Over a number that each count divides, no fraction is left.
        BigInteger over = BigInteger.ONE;
        for (int k = 2; k <= 60; k++) over = over.multiply(BigInteger.valueOf(k));
        BigInteger[] parts = new BigInteger[3];
        for (int what = 0; what <= 2; what++) {
            int place = new int[] {0, 2, 1}[what];
            parts[what] = BigInteger.ZERO;
            for (int one = 0; one < 12; one++) {
                int id = one;
                List<Integer> xs = shots.stream().filter(s -> s.by(place) == id).map(Shot::x).toList();
                if (xs.isEmpty()) continue;
                long sum = xs.stream().mapToLong(v -> v).sum();
                parts[what] = parts[what].add(BigInteger.valueOf(sum * sum).multiply(over.divide(BigInteger.valueOf(xs.size()))));
            }
        }
        int best = 0;
        for (int what = 1; what <= 2; what++) {
            if (parts[what].compareTo(parts[best]) > 0) best = what;
        }
        return best;
    }

    int spread(int i) {
        if (noStick(i)) return BAD;
        List<Integer> xs = shots.stream().filter(s -> s.stick() == i).map(Shot::x).sorted().toList();
        return xs.isEmpty() ? NONE : xs.get(xs.size() - 1) - xs.get(0);
    }

    int out(int i, int r) {
        if (noStick(i) || !in(r, 0, 99)) return BAD;
        List<Shot> its = shots.stream().filter(s -> s.stick() == i).toList();
        List<Shot> others = shots.stream().filter(s -> s.stick() != i).toList();
        if (its.isEmpty() || others.isEmpty()) return STATE;
        long up = its.stream().mapToLong(Shot::x).sum() * others.size() - others.stream().mapToLong(Shot::x).sum() * its.size();
        return its.size() >= 3 && Math.abs(up) > (long) r * its.size() * others.size() ? 1 : 0;
    }

    int lot(int v) {
        int before = lot;
        lot = v;
        return before;
    }

    int rate(int kind, int i) {
        if (!in(kind, 0, 5) || noStick(i) || bows.isEmpty()) return NO;
        int[] s = sticks.get(i);
        trace += new int[] {1, 10, 100, 1000, 10000, 100000}[kind];
        if (kind == 0) return spine(s);
        int up = rate(new int[] {0, 0, 0, 1, 2, 0}[kind], i);
        return new int[] {0, up + s[1], up - drop(s, bows.get(0)), up + tunes[3], 2 * up, up + s[4]}[kind];
    }

    int keep(int image) {
        if (!in(image, 0, 1)) return BAD;
        images[image] = new Kept(copy(sticks), List.copyOf(shots), lot);
        return shots.size();
    }

    int back(int image) {
        if (!in(image, 0, 1)) return BAD;
        if (images[image] == null) return STATE;
        sticks = copy(images[image].sticks());
        shots = new ArrayList<>(images[image].shots());
        lot = images[image].lot();
        return shots.size();
    }

    private static List<int[]> copy(List<int[]> rows) {
        List<int[]> copies = new ArrayList<>();
        for (int[] row : rows) copies.add(row.clone());
        return copies;
    }

    int count(int what) {
        if (!in(what, 0, 4)) return BAD;
        return new int[] {sticks.size(), bows.size(), archers.size(), shots.size(), text.length()}[what];
    }

    long trace() {
        return trace;
    }
}
