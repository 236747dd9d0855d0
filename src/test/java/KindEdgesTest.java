/** One test for each sentence on KINDS, IMAGES and reading anew that names an edge: promises 29 to 31 and 33. */
public final class KindEdgesTest {
    private static final Due DUE = new Due("KindEdgesTest");
    private static final String ALL = "stick 112 300 60 50 30 4;stick 100 250 45 40 10 2;bow 40 2;bow 60 0;archer left 2 5;";

    public static void main(String[] args) {
        rateEnds();
        rateWind();
        rateByBowZero();
        rateRefused();
        rateWithoutBow();
        traceAtFirst();
        traceOfEach();
        traceGoesOn();
        rateRefusedLeavesTrace();
        keepRefused();
        backRefused();
        backState();
        keepEmpty();
        keepFull();
        keepSticks();
        keepAgain();
        backAgain();
        imagesApart();
        keepLot();
        keepTunesNot();
        keepTextNot();
        keepTraceNot();
        readAnewSheet();
        readAnewImages();
        readAnewTunes();
        readAnewLot();
        readAnewTrace();
        readAnewByNothing();
        readAnewFewer();
        lastCall();
        DUE.end();
    }

    private static void rateEnds() {
        DUE.sentence("RATE: FLIGHT its SPINE, CLEAN up and WEIGHT, STIFF up less DROP, SLAPPED twice up, SOFT up and TIP (below 0, too)");
        AlikeArrows x = Due.told("stick 130 600 20 20 200 9;stick 80 600 99 99 0 0;bow 20 0;");
        int[] low = {-3, 597, -3 - 409, 597, 2 * (-3 - 409), 197}, high = {138, 738, 138 - 300, 738, 2 * (138 - 300), 138};
        for (int kind = 0; kind <= 5; kind++) {
            DUE.is("rate " + kind + " 0", x.rate(kind, 0), low[kind]);
            DUE.is("rate " + kind + " 1", x.rate(kind, 1), high[kind]);
        }
    }

    private static void rateWind() {
        DUE.sentence("RATE: WINDY up, and WIND (-9 .. 9)");
        AlikeArrows x = Due.told(ALL);
        for (int wind : new int[] {-9, 0, 9}) {
            x.tune(3, wind);
            DUE.is("WINDY by WIND " + wind, x.rate(3, 0), 57 + 300 + wind);
            DUE.is("CLEAN is without", x.rate(1, 0), 57 + 300);
        }
    }

    private static void rateByBowZero() {
        DUE.sentence("RATE of a stick with bow 0");
        AlikeArrows x = Due.told("stick 112 300 60 50 0 0;bow 70 0;bow 20 0;bow 30 0;");
        DUE.is("DROP by bow 0", x.rate(2, 0), 60 - 42);
    }

    private static void rateRefused() {
        DUE.sentence("29: rate: NO: BAD");
        AlikeArrows x = Due.told(ALL);
        DUE.range("kind", kind -> x.rate(kind, 0), 0, 57, 5, 87, Due.NO);
        DUE.range("stick", i -> x.rate(0, i), 0, 57, 1, 49, Due.NO);
        DUE.is("nothing is told", new AlikeArrows().rate(0, 0), Due.NO);
        DUE.is("no sticks", Due.told("bow 40 2;").rate(0, 0), Due.NO);
    }

    private static void rateWithoutBow() {
        DUE.sentence("29: rate: NO: there is no bow");
        AlikeArrows x = Due.told("stick 112 300 60 50 30 4;archer left 0 0;");
        for (int kind = 0; kind <= 5; kind++) DUE.is("kind " + kind, x.rate(kind, 0), Due.NO);
        DUE.is("trace", x.trace(), 0);
        Due.typed(x, "bow 20 0;stick 112 300 60 50 30 4;");
        x.arrows();
        DUE.is("a bow", x.rate(0, 0), 57);
    }

    private static void traceAtFirst() {
        DUE.sentence("THE TRACE, 0 at first");
        DUE.is("new", new AlikeArrows().trace(), 0);
        DUE.is("told", Due.told(ALL).trace(), 0);
    }

    private static void traceOfEach() {
        DUE.sentence("numbers are added to THE TRACE as often as rate() asks that body: each once");
        long[] want = {1, 11, 101, 1011, 10101, 100001};
        for (int kind = 0; kind <= 5; kind++) {
            AlikeArrows x = Due.told(ALL);
            for (int times = 1; times <= 3; times++) {
                x.rate(kind, 0);
                DUE.is("kind " + kind + ", " + times + " times", x.trace(), times * want[kind]);
            }
        }
    }

    private static void traceGoesOn() {
        DUE.sentence("THE TRACE has no end that calls can reach");
        AlikeArrows x = Due.told(ALL);
        int calls = 0;
        while (calls < 480) {
            x.rate(calls % 2 == 0 ? 5 : 4, 0);
            calls++;
        }
        DUE.is("trace", x.trace(), 240L * 100001 + 240L * 10101);
    }

    private static void rateRefusedLeavesTrace() {
        DUE.sentence("29: a refused rate() adds nothing to THE TRACE");
        AlikeArrows x = Due.told(ALL);
        for (int kind = 0; kind <= 5; kind++) {
            DUE.is("no such stick", x.rate(kind, 2), Due.NO);
            DUE.is("no such stick", x.rate(kind, -1), Due.NO);
        }
        for (int kind : new int[] {-1, 6, Integer.MIN_VALUE, Integer.MAX_VALUE}) DUE.is("no such kind", x.rate(kind, 0), Due.NO);
        DUE.is("trace", x.trace(), 0);
    }

    private static void keepRefused() {
        DUE.sentence("30: keep: BAD (IMAGES 0, 1)");
        AlikeArrows x = Due.told(ALL);
        x.shoot(0, 0, 0);
        DUE.range("keep", image -> x.keep(image), 0, 1, 1, 1, Due.BAD);
        AlikeArrows y = Due.told(ALL);
        for (int image : new int[] {-1, 2}) y.keep(image);
        for (int image = 0; image <= 1; image++) DUE.is("none was kept " + image, y.back(image), Due.STATE);
    }

    private static void backRefused() {
        DUE.sentence("31: back: BAD (IMAGES 0, 1)");
        AlikeArrows x = Due.told(ALL);
        x.keep(0);
        x.shoot(0, 0, 0);
        x.keep(1);
        DUE.range("back", image -> x.back(image), 0, 0, 1, 1, Due.BAD);
        AlikeArrows y = new AlikeArrows();
        for (int image : new int[] {-1, 2}) DUE.is("BAD ahead of STATE", y.back(image), Due.BAD);
    }

    private static void backState() {
        DUE.sentence("31: back: STATE: none was kept");
        AlikeArrows x = Due.told(ALL);
        for (int image = 0; image <= 1; image++) DUE.is("none " + image, x.back(image), Due.STATE);
        x.keep(0);
        DUE.is("0 was", x.back(0), 0);
        DUE.is("1 was not", x.back(1), Due.STATE);
        AlikeArrows y = Due.told(ALL);
        y.keep(1);
        DUE.is("0 was not", y.back(0), Due.STATE);
        DUE.is("1 was", y.back(1), 0);
    }

    private static void keepEmpty() {
        DUE.sentence("IMAGES: of no sticks, of no shots");
        AlikeArrows x = new AlikeArrows();
        DUE.is("keep", x.keep(0), 0);
        x.lot(9);
        DUE.is("back", x.back(0), 0);
        DUE.is("lot", x.lot(1), 1);
        DUE.is("sticks", x.count(0), 0);
        AlikeArrows y = Due.told(ALL);
        DUE.is("keep no shots", y.keep(1), 0);
        y.shoot(0, 0, 0);
        DUE.is("back to no shots", y.back(1), 0);
        DUE.is("no shots", y.count(3), 0);
        DUE.is("no shot", y.shot(0, 0), Due.NO);
    }

    private static void keepFull() {
        DUE.sentence("IMAGES: of twelve sticks, of sixty shots");
        StringBuilder text = new StringBuilder();
        for (int i = 0; i < 12; i++) text.append("stick ").append(100 + i).append(" 600 50 40 0 0;");
        AlikeArrows x = Due.told(text + "bow 50 0;archer left 0 20;");
        for (int i = 0; i < 12; i += 2) x.turn(i);
        int[] xs = new int[60];
        for (int k = 0; k < 60; k++) xs[k] = x.shoot(k % 12, 0, 0);
        DUE.is("keep", x.keep(0), 60);
        x.wipe();
        x.shoot(0, 0, 0);
        for (int i = 0; i < 12; i++) {
            x.cut(i);
            x.turn(i);
        }
        DUE.is("back", x.back(0), 60);
        for (int k = 0; k < 60; k++) DUE.is("shot " + k, x.shot(k, 3), xs[k]);
        DUE.is("the last one's stick", x.shot(59, 0), 11);
        for (int i = 0; i < 12; i++) {
            DUE.is("LENGTH of " + i, x.stick(i, 0), 100 + i);
            DUE.is("NOTCH of " + i, x.stick(i, 6), 1 - i % 2);
        }
        DUE.is("full again", x.shoot(0, 0, 0), Due.NO);
    }

    private static void keepSticks() {
        DUE.sentence("IMAGES keep all sticks as they are NOW (NOTCHES, too)");
        AlikeArrows x = Due.told("stick 112 300 60 50 30 4;stick 81 202 21 21 195 9;bow 40 2;");
        x.turn(1);
        x.keep(0);
        for (int i = 0; i < 2; i++) {
            x.cut(i);
            x.scrape(i);
            x.load(i);
            x.turn(i);
        }
        int[][] acted = {{111, 298, 59, 49, 35, 4, 1}, {80, 200, 20, 20, 200, 9, 0}};
        int[][] kept = {{112, 300, 60, 50, 30, 4, 0}, {81, 202, 21, 21, 195, 9, 1}};
        for (int i = 0; i < 2; i++) {
            for (int what = 0; what <= 6; what++) DUE.is("stick " + i + " " + what, x.stick(i, what), acted[i][what]);
        }
        DUE.is("back", x.back(0), 0);
        for (int i = 0; i < 2; i++) {
            for (int what = 0; what <= 6; what++) DUE.is("kept stick " + i + " " + what, x.stick(i, what), kept[i][what]);
        }
    }

    private static void keepAgain() {
        DUE.sentence("30: an IMAGE is kept, over one that was");
        AlikeArrows x = Due.told(ALL);
        x.shoot(0, 0, 0);
        DUE.is("first", x.keep(0), 1);
        x.cut(0);
        x.wipe();
        DUE.is("anew", x.keep(0), 0);
        x.cut(0);
        x.shoot(0, 0, 0);
        DUE.is("back", x.back(0), 0);
        DUE.is("LENGTH", x.stick(0, 0), 111);
    }

    private static void backAgain() {
        DUE.sentence("31: All of that becomes as an IMAGE has it, as often as it is asked");
        AlikeArrows x = Due.told(ALL);
        x.shoot(0, 0, 0);
        int first = x.shot(0, 3);
        x.keep(1);
        for (int times = 0; times < 3; times++) {
            x.cut(0);
            x.turn(1);
            x.wipe();
            x.shoot(1, 1, 0);
            x.shoot(1, 1, 0);
            DUE.is("back", x.back(1), 1);
            DUE.is("LENGTH", x.stick(0, 0), 112);
            DUE.is("NOTCH", x.stick(1, 6), 0);
            DUE.is("x", x.shot(0, 3), first);
            DUE.is("stick", x.shot(0, 0), 0);
            DUE.is("bow", x.shot(0, 1), 0);
        }
    }

    private static void imagesApart() {
        DUE.sentence("IMAGES 0, 1, each by itself");
        AlikeArrows x = Due.told(ALL);
        x.keep(0);
        x.cut(0);
        x.shoot(0, 0, 0);
        x.keep(1);
        x.cut(0);
        DUE.is("back 0", x.back(0), 0);
        DUE.is("LENGTH of 0", x.stick(0, 0), 112);
        DUE.is("back 1", x.back(1), 1);
        DUE.is("LENGTH of 1", x.stick(0, 0), 111);
        DUE.is("back 0 again", x.back(0), 0);
        DUE.is("LENGTH of 0 again", x.stick(0, 0), 112);
    }

    private static void keepLot() {
        DUE.sentence("IMAGES keep THE LOT");
        for (int lot : new int[] {0, -1, Integer.MIN_VALUE, Integer.MAX_VALUE}) {
            AlikeArrows x = Due.told(ALL);
            x.lot(lot);
            x.keep(0);
            int first = x.shoot(0, 0, 0);
            x.back(0);
            DUE.is("the same shot", x.shoot(0, 0, 0), first);
            x.back(0);
            DUE.is("lot", x.lot(1), lot);
        }
    }

    private static void keepTunesNot() {
        DUE.sentence("IMAGES: nothing else: TUNES stay");
        AlikeArrows x = Due.told(ALL);
        x.keep(0);
        int[] other = {1, 2, 3, 4};
        for (int what = 0; what <= 3; what++) x.tune(what, other[what]);
        x.back(0);
        for (int what = 0; what <= 3; what++) DUE.is("TUNE " + what, x.tune(what, 0), other[what]);
    }

    private static void keepTextNot() {
        DUE.sentence("IMAGES: nothing else: THE TEXT stays");
        AlikeArrows x = Due.told(ALL);
        Due.typed(x, "bow");
        x.keep(0);
        Due.typed(x, " 20 0;");
        x.back(0);
        DUE.is("count", x.count(4), 9);
        DUE.is("arrows", x.arrows(), 1);
    }

    private static void keepTraceNot() {
        DUE.sentence("IMAGES: nothing else: THE TRACE goes on behind back()");
        AlikeArrows x = Due.told(ALL);
        x.rate(0, 0);
        x.keep(0);
        x.rate(5, 0);
        x.back(0);
        DUE.is("trace", x.trace(), 100002);
        x.rate(0, 0);
        DUE.is("trace goes on", x.trace(), 100003);
    }

    /** Everything is done that could stay, and then it is read anew. */
    private static AlikeArrows readAnew() {
        AlikeArrows x = Due.told(ALL);
        x.tune(0, 1);
        x.tune(1, 2);
        x.tune(2, 3);
        x.tune(3, -4);
        x.shoot(0, 0, 0);
        x.keep(0);
        x.keep(1);
        x.rate(0, 0);
        x.lot(77);
        Due.typed(x, ALL);
        DUE.is("read anew", x.arrows(), 5);
        return x;
    }

    private static void readAnewSheet() {
        DUE.sentence("Read anew: THE SHEET is empty");
        AlikeArrows x = readAnew();
        DUE.is("count", x.count(3), 0);
        DUE.is("shot", x.shot(0, 0), Due.NO);
        DUE.is("parted", x.parted(), Due.NONE);
    }

    private static void readAnewImages() {
        DUE.sentence("Read anew: IMAGES are gone");
        DUE.is("0", readAnew().back(0), Due.STATE);
        DUE.is("1", readAnew().back(1), Due.STATE);
        AlikeArrows x = readAnew();
        x.keep(0);
        DUE.is("0 is kept anew", x.back(0), 0);
        DUE.is("1 is not", x.back(1), Due.STATE);
    }

    private static void readAnewTunes() {
        DUE.sentence("Read anew: TUNES stay");
        AlikeArrows x = readAnew();
        int[] want = {1, 2, 3, -4};
        for (int what = 0; what <= 3; what++) DUE.is("TUNE " + what, x.tune(what, 0), want[what]);
    }

    private static void readAnewLot() {
        DUE.sentence("Read anew: THE LOT stays");
        DUE.is("lot", readAnew().lot(1), 77);
    }

    private static void readAnewTrace() {
        DUE.sentence("Read anew: THE TRACE goes on");
        AlikeArrows x = readAnew();
        DUE.is("trace", x.trace(), 1);
        x.rate(0, 0);
        DUE.is("trace goes on", x.trace(), 2);
    }

    private static void readAnewByNothing() {
        DUE.sentence("Read anew: by no ITEMS, too");
        AlikeArrows x = Due.told(ALL);
        x.shoot(0, 0, 0);
        x.keep(0);
        DUE.is("arrows", x.arrows(), 0);
        for (int what = 0; what <= 4; what++) DUE.is("count " + what, x.count(what), 0);
        DUE.is("image", x.back(0), Due.STATE);
    }

    private static void readAnewFewer() {
        DUE.sentence("Read anew: fewer than before");
        AlikeArrows x = new AlikeArrows();
        // Often, as what was read before might be used again.
        for (int times = 0; times < 3; times++) {
            Due.typed(x, "stick 112 300 60 50 30 4;".repeat(12) + "bow 20 0;bow 21 0;bow 22 0;" + "archer left 1 1;".repeat(3));
            DUE.is("arrows", x.arrows(), 18);
        }
        Due.typed(x, "archer left 2 2;stick 90 222 33 44 5 6;");
        DUE.is("arrows", x.arrows(), 2);
        DUE.is("sticks", x.count(0), 1);
        DUE.is("bows", x.count(1), 0);
        DUE.is("archers", x.count(2), 1);
        DUE.is("AIM", x.archer(0, 0), -2);
        DUE.is("stick 0", x.stick(0, 0), 90);
        DUE.is("stick 1", x.stick(1, 0), Due.BAD);
        DUE.is("bow 0", x.bow(0, 0), Due.BAD);
        DUE.is("a stick without a bow", x.flight(0, 0, 0), Due.NO);
        Due.typed(x, "bow 33 3;");
        DUE.is("arrows", x.arrows(), 1);
        DUE.is("no sticks", x.count(0), 0);
        DUE.is("no archers", x.count(2), 0);
        DUE.is("archer 0", x.archer(0, 0), Due.NO);
    }

    private static void lastCall() {
        DUE.sentence("An object is used for at most 512 calls");
        AlikeArrows x = new AlikeArrows();
        String text = "stick 112 300 60 50 30 4;bow 50 0;archer right 3 0;";
        int calls = 0;
        for (int k = 0; k < text.length(); k++, calls++) x.type(text.charAt(k), 1);
        DUE.is("arrows", x.arrows(), 3);
        calls++;
        while (calls < 508) {
            if (calls % 2 == 0) x.turn(0);
            else x.shoot(0, 0, 0);
            calls++;
        }
        int notch = x.stick(0, 6);
        DUE.is("509: full", x.count(3), 60);
        DUE.is("510: wipe", x.wipe(), 60);
        DUE.is("511: turn", x.turn(0), 1 - notch);
        // By side 0 OFF is 7, and BARE -7 by six tenths; by side 1 it is CLEAN.
        DUE.is("512: shoot", x.shoot(0, 0, 0), notch == 1 ? -4 + 3 : 3);
    }
}
