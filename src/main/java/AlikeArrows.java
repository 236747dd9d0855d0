/** Arrows that fly alike, as ../shared/DOC.md tells them. */
public final class AlikeArrows {
    public static final int BAD = -1, STATE = -2, FULL = -3, NONE = -9;
    public static final int NO = -1000000;

    private static final int MOST_STICKS = 12, MOST_BOWS = 3, MOST_ARCHERS = 3;
    private static final int MOST_BYTES = 400, MOST_SHOTS = 60;

    private static final int LEAST_LENGTH = 80, MOST_LENGTH = 130;
    private static final int LEAST_WEIGHT = 200, MOST_WEIGHT = 600;
    private static final int LEAST_STIFF = 20, MOST_STIFF = 99;
    private static final int MOST_TIP = 200, MOST_FEATHER = 9;
    private static final int LEAST_DRAW = 20, MOST_DRAW = 70, MOST_WIDE = 9;
    private static final int MOST_AIM = 30, MOST_WANDER = 20;

    private static final int CLEAN = 1, STIFF = 2, SLAPPED = 4, SOFT = 5;

    private final Reader reader;
    private final Tunes tunes;
    private final Sheet sheet;
    private final Flock flock;
    private final LeastActs leastActs;
    private final Kinds kinds;
    private final Image image0, image1;
    private Gear gear, spare;
    private int lotNow;

    public AlikeArrows() {
        reader = new Reader();
        tunes = new Tunes();
        sheet = new Sheet();
        flock = new Flock();
        leastActs = new LeastActs();
        kinds = new Kinds();
        image0 = new Image();
        image1 = new Image();
        gear = new Gear();
        spare = new Gear();
        lotNow = 1;
    }

    // ---- sticks, bows, archers

    public int type(long v, int n) {
        if (!within(n, 1, 8)) return BAD;
        if (reader.size + n > MOST_BYTES) return FULL;
        for (int k = n - 1; k >= 0; k--) reader.add((int) (v >>> (8 * k)) & 255);
        return reader.size;
    }

    public int clear() {
        return reader.empty();
    }

    public int arrows() {
        // Read into spare gear, so that a FAULT leaves what is there as it was.
        int items = reader.readAll(spare);
        if (items < 0) return items;
        Gear before = gear;
        gear = spare;
        spare = before;
        reader.empty();
        sheet.empty();
        image0.kept = false;
        image1.kept = false;
        return items;
    }

    public int stick(int i, int what) {
        Stick s = gear.stickAt(i);
        if (s == null) return BAD;
        switch (what) {
            case 0: return s.length;
            case 1: return s.weight;
            case 2: return s.stiff0;
            case 3: return s.stiff1;
            case 4: return s.tip;
            case 5: return s.feather;
            case 6: return s.notch;
            default: return BAD;
        }
    }

    public int bow(int b, int what) {
        Bow w = gear.bowAt(b);
        if (w == null) return BAD;
        switch (what) {
            case 0: return w.draw;
            case 1: return w.wide;
            case 2: return w.need();
            default: return BAD;
        }
    }

    public int archer(int a, int what) {
        Archer r = gear.archerAt(a);
        if (r == null) return NO;
        switch (what) {
            case 0: return r.aim;
            case 1: return r.wander;
            default: return NO;
        }
    }

    public int tune(int what, int v) {
        return tunes.change(what, v);
    }

    // ---- acts

    public int cut(int i) {
        Stick s = gear.stickAt(i);
        if (s == null) return BAD;
        if (s.mostCuts() < 1) return STATE;
        s.length--;
        return s.length;
    }

    public int scrape(int i) {
        Stick s = gear.stickAt(i);
        if (s == null) return BAD;
        if (s.mostScrapes() < 1) return STATE;
        s.stiff0--;
        s.stiff1--;
        s.weight -= 2;
        return s.weight;
    }

    public int load(int i) {
        Stick s = gear.stickAt(i);
        if (s == null) return BAD;
        if (s.mostLoads() < 1) return STATE;
        s.tip += 5;
        return s.tip;
    }

    public int turn(int i) {
        Stick s = gear.stickAt(i);
        if (s == null) return BAD;
        s.notch = 1 - s.notch;
        return s.notch;
    }

    public int least(int i, int bow, int a, int b, int what) {
        Stick s = gear.stickAt(i);
        Bow w = gear.bowAt(bow);
        if (s == null || w == null || !within(what, 0, 4)) return BAD;
        if (a < 200 || a > b || b > 800) return BAD;
        leastActs.find(s, w.need(), tunes, a, b);
        return leastActs.tell(what);
    }

    // ---- flights

    public int flight(int i, int bow, int what) {
        Stick s = gear.stickAt(i);
        Bow w = gear.bowAt(bow);
        if (s == null || w == null) return NO;
        int off = s.spine() - w.need();
        switch (what) {
            case 0: return s.spine();
            case 1: return off;
            case 2: return tunes.bareOf(off);
            case 3: return tunes.goesOf(s, off, s.feather);
            case 4: return w.dropOf(s, s.feather);
            case 5: return tunes.flightOf(off);
            default: return NO;
        }
    }

    public int band(int bow, int length, int tip, int what) {
        Bow w = gear.bowAt(bow);
        if (w == null || !within(length, LEAST_LENGTH, MOST_LENGTH)) return BAD;
        if (!within(tip, 0, MOST_TIP) || !within(what, 0, 1)) return BAD;
        int found = NONE;
        for (int stiff = LEAST_STIFF; stiff <= MOST_STIFF; stiff++) {
            if (!tunes.isClean(spineOf(stiff, length, tip) - w.need())) continue;
            if (found == NONE || what == 1) found = stiff;
        }
        return found;
    }

    public int says(int x, int feather, int what) {
        if (!within(x, -999, 999) || !within(feather, 0, MOST_FEATHER) || !within(what, 0, 1)) return NO;
        int found = NO;
        for (int off = -60; off <= 60; off++) {
            if (tunes.feathered(off, feather) - tunes.bareOf(off) != x) continue;
            if (found == NO || what == 1) found = off;
        }
        return found;
    }

    public int alike(int bow, int d, int e, int what) {
        Bow w = gear.bowAt(bow);
        if (w == null || !within(d, 0, 999) || !within(e, 0, 999) || !within(what, 0, 1)) return BAD;
        flock.gather(gear, w, tunes, false);
        flock.find(d, e);
        return what == 0 ? flock.bestSet : flock.bestSize;
    }

    public int turned(int bow, int d, int e) {
        Bow w = gear.bowAt(bow);
        if (w == null || !within(d, 0, 999) || !within(e, 0, 999)) return BAD;
        flock.gather(gear, w, tunes, true);
        flock.find(d, e);
        return flock.bestSize;
    }

    public int wreck(int i, int wide, int what) {
        Stick s = gear.stickAt(i);
        if (s == null || !within(wide, 0, MOST_WIDE) || !within(what, 0, 1)) return BAD;
        int found = NONE;
        for (int draw = LEAST_DRAW; draw <= MOST_DRAW; draw++) {
            if (!tunes.isClean(s.spine() - needOf(draw, wide))) continue;
            if (found == NONE || what == 1) found = draw;
        }
        return found;
    }

    public int feather(int i, int bow, int far) {
        Stick s = gear.stickAt(i);
        Bow w = gear.bowAt(bow);
        if (s == null || w == null || !within(far, 0, 99)) return BAD;
        int off = s.spine() - w.need();
        int best = 0, bestSum = 0;
        for (int f = 0; f <= MOST_FEATHER; f++) {
            int sum = Math.abs(tunes.goesOf(s, off, f)) + w.dropOf(s, f) * far / 100;
            if (f > 0 && sum >= bestSum) continue;
            best = f;
            bestSum = sum;
        }
        return best;
    }

    public int warm(int bow, int k, int what) {
        Bow w = gear.bowAt(bow);
        if (w == null || !within(k, 0, 20) || !within(what, 0, 1)) return BAD;
        int warmNeed = needOf(Math.max(1, w.draw - k), w.wide);
        int changed = 0;
        for (int i = 0; i < gear.stickCount; i++) {
            int spine = gear.sticks[i].spine();
            boolean before = tunes.isClean(spine - w.need());
            boolean then = tunes.isClean(spine - warmNeed);
            if (before != then && before == (what == 0)) changed++;
        }
        return changed;
    }

    // ---- shots

    public int shoot(int i, int bow, int archer) {
        Stick s = gear.stickAt(i);
        Bow w = gear.bowAt(bow);
        Archer r = gear.archerAt(archer);
        if (s == null || w == null || r == null || sheet.size >= MOST_SHOTS) return NO;
        lotNow = lotNow * 1103515245 + 12345;
        int drawn = leftOver(lotNow >>> 16, 2 * r.wander + 1);
        int goes = tunes.goesOf(s, s.spine() - w.need(), s.feather);
        int x = goes + r.aim + drawn - r.wander;
        sheet.add(i, bow, archer, x, w.dropOf(s, s.feather));
        return x;
    }

    public int shot(int k, int what) {
        return sheet.tell(k, what);
    }

    public int wipe() {
        return sheet.empty();
    }

    public int parted() {
        return sheet.partedBy();
    }

    public int spread(int i) {
        if (gear.stickAt(i) == null) return BAD;
        return sheet.spreadOf(i);
    }

    public int out(int i, int r) {
        if (gear.stickAt(i) == null || !within(r, 0, 99)) return BAD;
        return sheet.mayLeave(i, r);
    }

    public int lot(int v) {
        int before = lotNow;
        lotNow = v;
        return before;
    }

    // ---- kinds, images

    public int rate(int kind, int i) {
        Stick s = gear.stickAt(i);
        Bow w = gear.bowAt(0);
        if (s == null || w == null) return NO;
        return kinds.rateAs(kind, s, w, tunes.wind());
    }

    public int keep(int image) {
        Image m = imageAt(image);
        if (m == null) return BAD;
        m.take(gear, sheet, lotNow);
        return sheet.size;
    }

    public int back(int image) {
        Image m = imageAt(image);
        if (m == null) return BAD;
        if (!m.kept) return STATE;
        m.give(gear, sheet);
        lotNow = m.lotThen;
        return sheet.size;
    }

    public int count(int what) {
        switch (what) {
            case 0: return gear.stickCount;
            case 1: return gear.bowCount;
            case 2: return gear.archerCount;
            case 3: return sheet.size;
            case 4: return reader.size;
            default: return BAD;
        }
    }

    public long trace() {
        return kinds.traced;
    }

    private Image imageAt(int k) {
        if (k == 0) return image0;
        return k == 1 ? image1 : null;
    }

    private static boolean within(int v, int least, int most) {
        return v >= least && v <= most;
    }

    private static int divided(int v, int by) {
        return by == 0 ? 0 : v / by;
    }

    private static int leftOver(int v, int by) {
        return by == 0 ? 0 : v % by;
    }

    private static int spineOf(int stiff, int length, int tip) {
        return divided(stiff * 112, length) - tip / 10;
    }

    private static int needOf(int draw, int wide) {
        return draw + 2 * wide;
    }

    private static final class Stick {
        int length, weight, stiff0, stiff1, tip, feather, notch;

        void copy(Stick s) {
            length = s.length;
            weight = s.weight;
            stiff0 = s.stiff0;
            stiff1 = s.stiff1;
            tip = s.tip;
            feather = s.feather;
            notch = s.notch;
        }

        int spine() {
            return spineBy(notch);
        }

        int spineBy(int side) {
            return spineOf(stiffBy(side), length, tip);
        }

        int stiffBy(int side) {
            return side == 0 ? stiff0 : stiff1;
        }

        int mass() {
            return weight + tip;
        }

        int mostCuts() {
            return length - LEAST_LENGTH;
        }

        int mostScrapes() {
            return Math.min(Math.min(stiff0, stiff1) - LEAST_STIFF, (weight - LEAST_WEIGHT) / 2);
        }

        int mostLoads() {
            return (MOST_TIP - tip) / 5;
        }
    }

    private static final class Bow {
        int draw, wide;

        int need() {
            return needOf(draw, wide);
        }

        int dropOf(Stick s, int feather) {
            return divided(10 * s.mass(), draw) + feather;
        }
    }

    private static final class Archer {
        int aim, wander;
    }

    private static final class Tunes {
        private static final int CLEAR = 0, SLAP = 1, SIDE = 2, WIND = 3;
        private static final int[] LEASTS = {0, 0, 0, -9};
        private static final int[] MOSTS = {20, 60, 30, 9};

        private final int[] values = {4, 15, 10, 0};

        int change(int what, int v) {
            if (what < CLEAR || what > WIND) return NO;
            if (!within(v, LEASTS[what], MOSTS[what])) return NO;
            int before = values[what];
            values[what] = v;
            return before;
        }

        int wind() {
            return values[WIND];
        }

        boolean isClean(int off) {
            return Math.abs(off) <= values[CLEAR];
        }

        int flightOf(int off) {
            if (isClean(off)) return CLEAN;
            if (Math.abs(off) > values[SLAP]) return SLAPPED;
            return off > 0 ? STIFF : SOFT;
        }

        int bareOf(int off) {
            int pushed = -(off * values[SIDE] / 10);
            switch (flightOf(off)) {
                case CLEAN: return 0;
                case SLAPPED: return 2 * pushed;
                default: return pushed;
            }
        }

        int feathered(int off, int feather) {
            return bareOf(off) * (10 - feather) / 10;
        }

        int goesOf(Stick s, int off, int feather) {
            return feathered(off, feather) + divided(wind() * 600, s.mass());
        }
    }

    /** All that a text tells: every place is filled from the start, so none is null. */
    private static final class Gear {
        final Stick[] sticks = new Stick[MOST_STICKS];
        final Bow[] bows = new Bow[MOST_BOWS];
        final Archer[] archers = new Archer[MOST_ARCHERS];
        int stickCount, bowCount, archerCount;

        Gear() {
            for (int k = 0; k < sticks.length; k++) sticks[k] = new Stick();
            for (int k = 0; k < bows.length; k++) bows[k] = new Bow();
            for (int k = 0; k < archers.length; k++) archers[k] = new Archer();
        }

        void empty() {
            stickCount = 0;
            bowCount = 0;
            archerCount = 0;
        }

        Stick stickAt(int i) {
            return i >= 0 && i < stickCount ? sticks[i] : null;
        }

        Bow bowAt(int b) {
            return b >= 0 && b < bowCount ? bows[b] : null;
        }

        Archer archerAt(int a) {
            return a >= 0 && a < archerCount ? archers[a] : null;
        }

        Stick addStick() {
            if (stickCount >= sticks.length) return null;
            stickCount++;
            return sticks[stickCount - 1];
        }

        Bow addBow() {
            if (bowCount >= bows.length) return null;
            bowCount++;
            return bows[bowCount - 1];
        }

        Archer addArcher() {
            if (archerCount >= archers.length) return null;
            archerCount++;
            return archers[archerCount - 1];
        }
    }

    /**
     * THE TEXT, and how its items are read. A take..() that refuses leaves the place at the first byte
     * of the token that it refused (or at the text's end), so the place is the FAULT whenever a reading stops.
     */
    private static final class Reader {
        private static final int[] STICK_LEASTS = {LEAST_LENGTH, LEAST_WEIGHT, LEAST_STIFF, LEAST_STIFF, 0, 0};
        private static final int[] STICK_MOSTS =
            {MOST_LENGTH, MOST_WEIGHT, MOST_STIFF, MOST_STIFF, MOST_TIP, MOST_FEATHER};
        private static final int[] BOW_LEASTS = {LEAST_DRAW, 0};
        private static final int[] BOW_MOSTS = {MOST_DRAW, MOST_WIDE};
        private static final int[] ARCHER_LEASTS = {0, 0};
        private static final int[] ARCHER_MOSTS = {MOST_AIM, MOST_WANDER};

        private final int[] bytes = new int[MOST_BYTES], numbers = new int[6];
        private int place;
        int size;

        void add(int b) {
            if (size >= bytes.length) return;
            bytes[size] = b;
            size++;
        }

        int empty() {
            int before = size;
            size = 0;
            return before;
        }

        /** The byte at a place; -1 behind the last, which is no sign at all. */
        private int byteAt(int at) {
            return at >= 0 && at < size ? bytes[at] : -1;
        }

        /** How many items; -10 less FAULT. */
        int readAll(Gear gear) {
            gear.empty();
            place = 0;
            int items = 0;
            skipBlanks();
            while (place < size && items < MOST_BYTES) {
                if (!readItem(gear)) return -10 - place;
                items++;
                skipBlanks();
            }
            return items;
        }

        private boolean readItem(Gear gear) {
            if (gear.stickCount < MOST_STICKS && takeWord("stick")) return readStick(gear);
            if (gear.bowCount < MOST_BOWS && takeWord("bow")) return readBow(gear);
            if (gear.archerCount < MOST_ARCHERS && takeWord("archer")) return readArcher(gear);
            return false;
        }

        private boolean readStick(Gear gear) {
            if (!takeNumbers(STICK_LEASTS, STICK_MOSTS) || !takeEnd()) return false;
            Stick s = gear.addStick();
            if (s == null) return false;
            s.length = numbers[0];
            s.weight = numbers[1];
            s.stiff0 = numbers[2];
            s.stiff1 = numbers[3];
            s.tip = numbers[4];
            s.feather = numbers[5];
            s.notch = 0;
            return true;
        }

        private boolean readBow(Gear gear) {
            if (!takeNumbers(BOW_LEASTS, BOW_MOSTS) || !takeEnd()) return false;
            Bow w = gear.addBow();
            if (w == null) return false;
            w.draw = numbers[0];
            w.wide = numbers[1];
            return true;
        }

        private boolean readArcher(Gear gear) {
            boolean left = takeWord("left");
            if (!left && !takeWord("right")) return false;
            if (!takeNumbers(ARCHER_LEASTS, ARCHER_MOSTS) || !takeEnd()) return false;
            Archer r = gear.addArcher();
            if (r == null) return false;
            r.aim = left ? -numbers[0] : numbers[0];
            r.wander = numbers[1];
            return true;
        }

        private void skipBlanks() {
            while (place < size && byteAt(place) == ' ') place++;
        }

        private boolean takeWord(String word) {
            skipBlanks();
            int length = word.length();
            for (int k = 0; k < length; k++) {
                if (byteAt(place + k) != word.charAt(k)) return false;
            }
            // A longer row of letters is another word.
            if (within(byteAt(place + length), 'a', 'z')) return false;
            place += length;
            return true;
        }

        private boolean takeNumbers(int[] leasts, int[] mosts) {
            for (int k = 0; k < leasts.length && k < mosts.length && k < numbers.length; k++) {
                skipBlanks();
                numbers[k] = takeNumber(leasts[k], mosts[k]);
                if (numbers[k] < 0) return false;
            }
            return true;
        }

        /** The number; -1 if what stands there is no number from least to most. */
        private int takeNumber(int least, int most) {
            int value = 0, end = place;
            while (end < size && within(byteAt(end), '0', '9')) {
                value = Math.min(1000, value * 10 + byteAt(end) - '0');
                end++;
            }
            boolean zeroAhead = end - place > 1 && byteAt(place) == '0';
            if (end == place || zeroAhead || !within(value, least, most)) return -1;
            place = end;
            return value;
        }

        private boolean takeEnd() {
            skipBlanks();
            if (byteAt(place) != ';') return false;
            place++;
            return true;
        }
    }

    private static final class Sheet {
        private final int[] sticks = new int[MOST_SHOTS], bows = new int[MOST_SHOTS], archers = new int[MOST_SHOTS];
        private final int[] xs = new int[MOST_SHOTS], ys = new int[MOST_SHOTS];
        private final int[] sums = new int[MOST_STICKS], counts = new int[MOST_STICKS];
        private long partUp, partBy;
        int size;

        void add(int stick, int bow, int archer, int x, int y) {
            if (size >= MOST_SHOTS) return;
            sticks[size] = stick;
            bows[size] = bow;
            archers[size] = archer;
            xs[size] = x;
            ys[size] = y;
            size++;
        }

        int tell(int k, int what) {
            if (k < 0 || k >= size) return NO;
            switch (what) {
                case 0: return sticks[k];
                case 1: return bows[k];
                case 2: return archers[k];
                case 3: return xs[k];
                case 4: return ys[k];
                default: return NO;
            }
        }

        int empty() {
            int before = size;
            size = 0;
            return before;
        }

        void copy(Sheet s) {
            size = s.size;
            for (int k = 0; k < size; k++) {
                sticks[k] = s.sticks[k];
                bows[k] = s.bows[k];
                archers[k] = s.archers[k];
                xs[k] = s.xs[k];
                ys[k] = s.ys[k];
            }
        }

        int partedBy() {
            if (size == 0) return NONE;
            int best = 0;
            long bestUp = 0, bestBy = 1;
            for (int what = 0; what <= 2; what++) {
                weigh(what == 0 ? sticks : what == 1 ? archers : bows);
                // Far inside a long: 60 shots below 1000 each, and shares of 60 whose least common multiple is 60060.
                if (partUp * bestBy <= bestUp * partBy) continue;
                best = what;
                bestUp = partUp;
                bestBy = partBy;
            }
            return best;
        }

        /** The squared sums by their counts, added, as the fraction partUp by partBy. */
        private void weigh(int[] whose) {
            addUp(whose);
            partUp = 0;
            partBy = 1;
            for (int k = 0; k < counts.length; k++) {
                if (counts[k] > 0) addFraction((long) sums[k] * sums[k], counts[k]);
            }
        }

        private void addUp(int[] whose) {
            for (int k = 0; k < counts.length; k++) {
                sums[k] = 0;
                counts[k] = 0;
            }
            for (int k = 0; k < size; k++) {
                int one = whose[k];
                if (one < 0 || one >= counts.length) continue;
                sums[one] += xs[k];
                counts[one]++;
            }
        }

        private void addFraction(long up, long by) {
            long common = commonDivisor(partBy, by);
            if (common == 0) return;
            partUp = partUp * (by / common) + up * (partBy / common);
            partBy = partBy * (by / common);
        }

        private static long commonDivisor(long a, long b) {
            // Euclid's steps on numbers below 2 to the 63rd stay under a hundred.
            for (int k = 0; k < 100 && b != 0; k++) {
                long left = a % b;
                a = b;
                b = left;
            }
            return a;
        }

        int spreadOf(int stick) {
            int least = 0, greatest = 0;
            boolean any = false;
            for (int k = 0; k < size; k++) {
                if (sticks[k] != stick) continue;
                least = any ? Math.min(least, xs[k]) : xs[k];
                greatest = any ? Math.max(greatest, xs[k]) : xs[k];
                any = true;
            }
            return any ? greatest - least : NONE;
        }

        int mayLeave(int stick, int r) {
            long sum = 0, count = 0, otherSum = 0, otherCount = 0;
            for (int k = 0; k < size; k++) {
                if (sticks[k] == stick) {
                    sum += xs[k];
                    count++;
                } else {
                    otherSum += xs[k];
                    otherCount++;
                }
            }
            if (count == 0 || otherCount == 0) return STATE;
            // Both means by their common divisor, so that nothing is cut.
            boolean far = Math.abs(sum * otherCount - otherSum * count) > r * count * otherCount;
            return far && count >= 3 ? 1 : 0;
        }
    }

    private static final class Image {
        private final Stick[] sticks = new Stick[MOST_STICKS];
        private final Sheet sheet = new Sheet();
        int lotThen;
        boolean kept;

        Image() {
            for (int k = 0; k < sticks.length; k++) sticks[k] = new Stick();
        }

        void take(Gear gear, Sheet from, int lot) {
            for (int k = 0; k < gear.stickCount && k < sticks.length; k++) sticks[k].copy(gear.sticks[k]);
            sheet.copy(from);
            lotThen = lot;
            kept = true;
        }

        void give(Gear gear, Sheet to) {
            for (int k = 0; k < gear.stickCount && k < sticks.length; k++) gear.sticks[k].copy(sticks[k]);
            to.copy(sheet);
        }
    }

    /** The fewest acts that bring a stick in. */
    private static final class LeastActs {
        private static final int MOST_OF_EACH = 15;

        private int total, cuts, scrapes, loads, turns;

        int tell(int what) {
            if (total == NONE) return NONE;
            switch (what) {
                case 0: return total;
                case 1: return cuts;
                case 2: return scrapes;
                case 3: return loads;
                case 4: return turns;
                default: return BAD;
            }
        }

        /** Tried in the order in which several are preferred, so that only fewer acts take the first one's place. */
        void find(Stick s, int need, Tunes tunes, int a, int b) {
            int mostCuts = Math.min(MOST_OF_EACH, s.mostCuts());
            int mostScrapes = Math.min(MOST_OF_EACH, s.mostScrapes());
            int mostLoads = Math.min(MOST_OF_EACH, s.mostLoads());
            total = NONE;
            for (int turn = 0; turn <= 1; turn++) {
                int stiff = s.stiffBy(turn == 0 ? s.notch : 1 - s.notch);
                for (int cut = 0; cut <= mostCuts; cut++) {
                    for (int scrape = 0; scrape <= mostScrapes; scrape++) {
                        for (int load = 0; load <= mostLoads && isFewer(turn + cut + scrape + load); load++) {
                            int off = spineOf(stiff - scrape, s.length - cut, s.tip + 5 * load) - need;
                            int mass = s.mass() - 2 * scrape + 5 * load;
                            if (tunes.isClean(off) && within(mass, a, b)) note(turn, cut, scrape, load);
                        }
                    }
                }
            }
        }

        private boolean isFewer(int acts) {
            return total == NONE || acts < total;
        }

        private void note(int turn, int cut, int scrape, int load) {
            total = turn + cut + scrape + load;
            turns = turn;
            cuts = cut;
            scrapes = scrape;
            loads = load;
        }
    }

    /** GOES and DROPS of all sticks, and the most of them that go alike. */
    private static final class Flock {
        private final int[] goes0 = new int[MOST_STICKS], goes1 = new int[MOST_STICKS], drops = new int[MOST_STICKS];
        private int size;
        int bestSet, bestSize;

        /** Each stick by the side where its NOTCH is; if it may turn, by both. */
        void gather(Gear gear, Bow w, Tunes tunes, boolean mayTurn) {
            size = 0;
            for (int i = 0; i < gear.stickCount && i < drops.length; i++) {
                Stick s = gear.sticks[i];
                int side0 = mayTurn ? 0 : s.notch, side1 = mayTurn ? 1 : s.notch;
                goes0[i] = tunes.goesOf(s, s.spineBy(side0) - w.need(), s.feather);
                goes1[i] = tunes.goesOf(s, s.spineBy(side1) - w.need(), s.feather);
                drops[i] = w.dropOf(s, s.feather);
                size++;
            }
        }

        /**
         * The greatest set has a least GOES and a least DROP, and holds all that are at most d, e above these:
         * so it is enough to try those that the sticks have.
         */
        void find(int d, int e) {
            bestSet = 0;
            bestSize = 0;
            for (int i = 0; i < size; i++) {
                for (int j = 0; j < size; j++) {
                    tryFrom(goes0[i], d, drops[j], e);
                    tryFrom(goes1[i], d, drops[j], e);
                }
            }
        }

        private void tryFrom(int goes, int d, int drop, int e) {
            int set = 0;
            for (int k = 0; k < size; k++) {
                boolean near = within(goes0[k], goes, goes + d) || within(goes1[k], goes, goes + d);
                if (near && within(drops[k], drop, drop + e)) set |= 1 << k;
            }
            int many = Integer.bitCount(set);
            if (many < bestSize || (many == bestSize && set >= bestSet)) return;
            bestSet = set;
            bestSize = many;
        }
    }

    /** What rate() asks of each KIND; each body leaves its number in the trace. */
    private static final class Kinds {
        long traced;

        int rateAs(int kind, Stick s, Bow w, int wind) {
            switch (kind) {
                case 0: return ofFlight(s);
                case 1: return ofClean(s);
                case 2: return ofStiff(s, w);
                case 3: return ofWindy(s, wind);
                case 4: return ofSlapped(s, w);
                case 5: return ofSoft(s);
                default: return NO;
            }
        }

        private int ofFlight(Stick s) {
            traced += 1;
            return s.spine();
        }

        private int ofClean(Stick s) {
            traced += 10;
            return ofFlight(s) + s.weight;
        }

        private int ofStiff(Stick s, Bow w) {
            traced += 100;
            return ofFlight(s) - w.dropOf(s, s.feather);
        }

        private int ofWindy(Stick s, int wind) {
            traced += 1000;
            return ofClean(s) + wind;
        }

        private int ofSlapped(Stick s, Bow w) {
            traced += 10000;
            return 2 * ofStiff(s, w);
        }

        private int ofSoft(Stick s) {
            traced += 100000;
            return ofFlight(s) + s.tip;
        }
    }
}
