/** One test for each sentence on FLIGHTS that names an edge: promises 14 to 21. A LENGTH of 112 makes SPINE what STIFF is. */
public final class FlightEdgesTest {
    private static final Due DUE = new Due("FlightEdgesTest");
    private static final int SPINE = 0, OFF = 1, BARE = 2, GOES = 3, DROP = 4, KIND = 5;
    private static final int CLEAN = 1, STIFF = 2, SLAPPED = 4, SOFT = 5;

    public static void main(String[] args) {
        stiffCut();
        tipCut();
        sideCut();
        featherCut();
        windCut();
        eachCutByItself();
        dropCut();
        farCut();
        spineBySide();
        spineEnds();
        cleanEnds();
        slapEnds();
        stiffOrSoft();
        cleanAheadOfSlapped();
        bareOfClean();
        bareTwice();
        goesByFeather();
        goesFarthest();
        dropEnds();
        flightRefused();
        bandEnds();
        bandOfOne();
        bandNone();
        bandRefused();
        saysSides();
        saysOffEnds();
        saysNone();
        saysWithoutWind();
        saysRefused();
        alikeApart();
        alikeDropsApart();
        alikeEachTwo();
        alikeLeastSet();
        alikeOfFew();
        alikeOfTwelve();
        alikeRefused();
        turnedEitherSide();
        turnedApart();
        turnedOfFew();
        turnedRefused();
        wreckEnds();
        wreckOfOne();
        wreckNone();
        wreckRefused();
        featherEnds();
        featherOfSeveral();
        featherEitherSign();
        featherRefused();
        warmByNone();
        warmEnds();
        warmOneAtLeast();
        warmRefused();
        DUE.end();
    }

    private static AlikeArrows told(String stick, String bow) {
        return Due.told("stick " + stick + ";bow " + bow + ";");
    }

    private static void flight(String call, AlikeArrows x, int what, int want) {
        DUE.is(call, x.flight(0, 0, what), want);
    }

    /** A CLEAN WEIGHT and TIP of 300, FEATHER 0, a NEED of 50, and OFF as asked (-30 .. 49). */
    private static AlikeArrows byOff(int off) {
        return told("112 300 " + (50 + off) + " 20 0 0", "50 0");
    }

    private static void stiffCut() {
        DUE.sentence("All that is divided is cut toward 0: STIFF times 112 by LENGTH");
        flight("2240 by 130 (17.2)", told("130 300 20 20 0 0", "50 0"), SPINE, 17);
        flight("3808 by 80 (47.6)", told("80 300 34 20 0 0", "50 0"), SPINE, 47);
        flight("11088 by 81 (136.9)", told("81 300 99 20 0 0", "50 0"), SPINE, 136);
        flight("6384 by 114 (56)", told("114 300 57 20 0 0", "50 0"), SPINE, 56);
        flight("6496 by 117 (55.5)", told("117 300 58 20 0 0", "50 0"), SPINE, 55);
    }

    private static void tipCut() {
        DUE.sentence("All that is divided is cut toward 0: TIP by 10");
        int[][] want = {{0, 50}, {1, 50}, {9, 50}, {10, 49}, {19, 49}, {20, 48}, {199, 31}, {200, 30}};
        for (int[] w : want) flight("TIP " + w[0], told("112 300 50 20 " + w[0] + " 0", "50 0"), SPINE, w[1]);
        // 47 (47.6) less 1 (1.9), not 45 (45.7).
        flight("47 less 1", told("80 300 34 20 19 0", "50 0"), SPINE, 46);
    }

    private static void sideCut() {
        DUE.sentence("All that is divided is cut toward 0: OFF times SIDE by 10");
        for (int off : new int[] {7, -7}) {
            int left = off > 0 ? -1 : 1;
            AlikeArrows x = byOff(off);
            // 7 times SIDE by 10, below 0 and above.
            int[][] want = {{0, 0}, {1, 0}, {2, 1}, {5, 3}, {9, 6}, {10, 7}, {11, 7}, {30, 21}};
            for (int[] w : want) {
                x.tune(2, w[0]);
                flight("OFF " + off + " SIDE " + w[0], x, BARE, left * w[1]);
            }
        }
    }

    private static void featherCut() {
        DUE.sentence("All that is divided is cut toward 0: BARE times (10 less FEATHER) by 10");
        int[] want = {7, 6, 5, 4, 4, 3, 2, 2, 1, 0};
        for (int f = 0; f <= 9; f++) {
            flight("BARE -7, FEATHER " + f, told("112 300 57 20 0 " + f, "50 0"), GOES, -want[f]);
            flight("BARE 7, FEATHER " + f, told("112 300 43 20 0 " + f, "50 0"), GOES, want[f]);
        }
    }

    private static void windCut() {
        DUE.sentence("All that is divided is cut toward 0: WIND times 600 by (WEIGHT and TIP)");
        String[] sticks = {"112 600 52 20 20 0", "112 600 50 20 0 0", "112 599 50 20 0 0", "112 350 50 20 0 0", "112 200 50 20 0 0"};
        // By 620, 600, 599, 350, 200.
        int[][] want = {{0, 0, 8}, {1, 2, 9}, {1, 2, 9}, {1, 3, 15}, {3, 6, 27}};
        int[] winds = {1, 2, 9};
        for (int k = 0; k < sticks.length; k++) {
            AlikeArrows x = told(sticks[k], "50 0");
            for (int w = 0; w < winds.length; w++) {
                int due = winds[w] == 2 && k == 0 ? 1 : want[k][w];
                x.tune(3, winds[w]);
                flight(sticks[k] + " WIND " + winds[w], x, GOES, due);
                x.tune(3, -winds[w]);
                flight(sticks[k] + " WIND -" + winds[w], x, GOES, -due);
            }
        }
    }

    private static void eachCutByItself() {
        DUE.sentence("All that is divided is cut toward 0: each by itself");
        // 5 by 2 and 600 by 400: 2 and 1, not 4.
        AlikeArrows x = told("112 400 45 20 0 5", "50 0");
        x.tune(3, 1);
        flight("2.5 and 1.5", x, GOES, 3);
        // -5 by 2 and -600 by 400: -2 and -1.
        AlikeArrows y = told("112 400 55 20 0 5", "50 0");
        y.tune(3, -1);
        flight("-2.5 and -1.5", y, GOES, -3);
        // OFF -5, SLAPPED: twice 2, not 5.
        AlikeArrows z = told("112 300 45 20 0 0", "50 0");
        z.tune(1, 4);
        z.tune(2, 5);
        flight("2.5 twice", z, BARE, 4);
        AlikeArrows w = told("112 300 45 20 0 2", "50 0");
        w.tune(2, 25);
        // 12 (12.5): 9 (9.6), not 10.
        flight("12.5", w, BARE, 12);
        flight("9.6", w, GOES, 9);
    }

    private static void dropCut() {
        DUE.sentence("All that is divided is cut toward 0: 10 times (WEIGHT and TIP) by DRAW");
        flight("3000 by 70 (42.9)", told("112 300 50 20 0 0", "70 0"), DROP, 42);
        flight("3019 by 70 (43.1)", told("112 300 50 20 2 0", "70 0"), DROP, 43);
        flight("3010 by 70 (43)", told("112 300 50 20 1 0", "70 0"), DROP, 43);
        flight("2010 by 23 (87.4) and 9", told("112 201 50 20 0 9", "23 0"), DROP, 96);
    }

    private static void farCut() {
        DUE.sentence("All that is divided is cut toward 0: DROP times far by 100");
        // GOES is 10 less the FEATHER, DROP 60 and the FEATHER.
        AlikeArrows x = byOff(-10);
        // By 99: 59 and 10, then 60 (60.39) and 9 ..: all the same, where without the cut the last one were the least.
        DUE.is("far 99", x.feather(0, 0, 99), 0);
        // By 90: 54 and 10; 54 (54.9) and 9; 55 (55.8) and 8 ..
        DUE.is("far 90", x.feather(0, 0, 90), 1);
    }

    private static void spineBySide() {
        DUE.sentence("SPINE: STIFF of the side by which the NOTCH is");
        AlikeArrows x = told("112 300 20 99 0 0", "50 0");
        flight("side 0", x, SPINE, 20);
        x.turn(0);
        flight("side 1", x, SPINE, 99);
        x.turn(0);
        flight("side 0 again", x, SPINE, 20);
    }

    private static void spineEnds() {
        DUE.sentence("SPINE, OFF: the least and the greatest there are");
        AlikeArrows x = told("130 600 20 20 200 0", "70 9");
        flight("17 less 20", x, SPINE, -3);
        flight("less 88", x, OFF, -91);
        AlikeArrows y = told("80 200 99 99 0 0", "20 0");
        flight("138", y, SPINE, 138);
        flight("less 20", y, OFF, 118);
    }

    private static void cleanEnds() {
        DUE.sentence("A FLIGHT is CLEAN, if OFF is CLEAR at most either way");
        int[] clears = {4, 0, 1, 20};
        for (int clear : clears) {
            int[] offs = {clear, -clear, clear + 1, -clear - 1};
            for (int k = 0; k < 4; k++) {
                AlikeArrows x = byOff(offs[k]);
                x.tune(1, 60);
                x.tune(0, clear);
                flight("CLEAR " + clear + ": OFF " + offs[k], x, OFF, offs[k]);
                flight("CLEAR " + clear + " OFF " + offs[k], x, KIND, k < 2 ? CLEAN : k == 2 ? STIFF : SOFT);
            }
        }
    }

    private static void slapEnds() {
        DUE.sentence("SLAPPED, if it is more than SLAP either way");
        int[] slaps = {15, 5, 0, 29};
        for (int slap : slaps) {
            int[] offs = {slap + 1, -slap - 1, slap, -slap};
            for (int k = 0; k < 4; k++) {
                AlikeArrows x = byOff(offs[k]);
                x.tune(0, 0);
                x.tune(1, slap);
                int kind = k < 2 ? SLAPPED : offs[k] == 0 ? CLEAN : offs[k] > 0 ? STIFF : SOFT;
                flight("SLAP " + slap + " OFF " + offs[k], x, KIND, kind);
            }
        }
        // The most that SLAP may be: 60.
        String[] bows = {"20 0", "20 0", "70 9", "70 9"};
        int[] stiffs = {81, 80, 27, 28}, kinds = {SLAPPED, STIFF, SLAPPED, SOFT};
        for (int k = 0; k < 4; k++) {
            AlikeArrows x = told("112 300 " + stiffs[k] + " 20 0 0", bows[k]);
            x.tune(1, 60);
            flight("SLAP 60, STIFF " + stiffs[k], x, KIND, kinds[k]);
        }
    }

    private static void stiffOrSoft() {
        DUE.sentence("else STIFF (OFF above 0), or SOFT");
        for (int off = -15; off <= 15; off++) {
            AlikeArrows x = byOff(off);
            x.tune(0, 0);
            flight("OFF " + off, x, KIND, off == 0 ? CLEAN : off > 0 ? STIFF : SOFT);
        }
    }

    private static void cleanAheadOfSlapped() {
        DUE.sentence("CLEAN, else SLAPPED (CLEAR above SLAP)");
        for (int off : new int[] {20, -20, 21, -21}) {
            AlikeArrows x = byOff(off);
            x.tune(0, 20);
            x.tune(1, 0);
            flight("OFF " + off, x, KIND, Math.abs(off) == 20 ? CLEAN : SLAPPED);
            flight("BARE by OFF " + off, x, BARE, Math.abs(off) == 20 ? 0 : -2 * off);
        }
        AlikeArrows y = byOff(15);
        y.tune(0, 15);
        flight("CLEAR and SLAP the same", y, KIND, CLEAN);
    }

    private static void bareOfClean() {
        DUE.sentence("BARE: 0, if it is CLEAN; else 0 less (OFF times SIDE by 10)");
        int[] offs = {0, 4, -4, 5, -5, 15, -15}, want = {0, 0, 0, -5, 5, -15, 15};
        for (int k = 0; k < offs.length; k++) flight("OFF " + offs[k], byOff(offs[k]), BARE, want[k]);
        AlikeArrows x = byOff(15);
        x.tune(2, 0);
        flight("SIDE 0", x, BARE, 0);
        x.tune(2, 30);
        flight("SIDE 30", x, BARE, -45);
    }

    private static void bareTwice() {
        DUE.sentence("a SLAPPED one twice that");
        int[] offs = {15, 16, -15, -16}, want = {-15, -32, 15, 32};
        for (int k = 0; k < offs.length; k++) flight("OFF " + offs[k], byOff(offs[k]), BARE, want[k]);
        AlikeArrows x = told("80 200 99 99 0 0", "20 0");
        x.tune(2, 30);
        // 118 times 3, twice.
        flight("the most to the left", x, BARE, -708);
        AlikeArrows y = told("130 200 20 20 200 0", "70 9");
        y.tune(2, 30);
        flight("the most to the right", y, BARE, 546);
    }

    private static void goesByFeather() {
        DUE.sentence("GOES: BARE times (10 less FEATHER) by 10 (FEATHER 0 .. 9)");
        flight("FEATHER 0", told("112 300 70 20 0 0", "50 0"), GOES, -40);
        flight("FEATHER 9", told("112 300 70 20 0 9", "50 0"), GOES, -4);
        flight("FEATHER 0, CLEAN", told("112 300 50 20 0 0", "50 0"), GOES, 0);
        flight("FEATHER 9, CLEAN", told("112 300 50 20 0 9", "50 0"), GOES, 0);
    }

    private static void goesFarthest() {
        DUE.sentence("GOES: and WIND times 600 by (WEIGHT and TIP) (WIND -9 .. 9)");
        AlikeArrows x = told("80 200 99 99 0 0", "20 0");
        x.tune(2, 30);
        x.tune(3, -9);
        flight("-708 and -5400 by 200", x, GOES, -735);
        AlikeArrows y = told("130 200 20 20 200 0", "70 9");
        y.tune(2, 30);
        y.tune(3, 9);
        flight("546 and 5400 by 400", y, GOES, 559);
        AlikeArrows z = told("112 600 70 70 200 9", "50 0");
        z.tune(3, 9);
        // CLEAN, as 20 is taken: the heaviest there is.
        flight("5400 by 800", z, GOES, 6);
        z.tune(3, -9);
        flight("-5400 by 800", z, GOES, -6);
    }

    private static void dropEnds() {
        DUE.sentence("DROP: 10 times (WEIGHT and TIP) by DRAW, and FEATHER");
        flight("8000 by 20 and 9", told("112 600 50 20 200 9", "20 9"), DROP, 409);
        flight("2000 by 70", told("112 200 50 20 0 0", "70 9"), DROP, 28);
    }

    private static void flightRefused() {
        DUE.sentence("14: flight: 0 SPINE .. 5 what it is. NO: BAD");
        AlikeArrows x = Due.told("stick 112 300 60 50 0 0;stick 112 300 30 50 0 0;bow 50 0;bow 40 0;");
        DUE.range("what", what -> x.flight(0, 0, what), 0, 60, 5, STIFF, Due.NO);
        DUE.range("stick", i -> x.flight(i, 0, 5), 0, STIFF, 1, SLAPPED, Due.NO);
        DUE.range("bow", b -> x.flight(0, b, 1), 0, 10, 1, 20, Due.NO);
        DUE.is("no sticks", Due.told("bow 50 0;").flight(0, 0, 0), Due.NO);
        DUE.is("no bows", Due.told("stick 112 300 60 50 0 0;").flight(0, 0, 0), Due.NO);
    }

    private static void band(AlikeArrows x, int length, int tip, int least, int greatest) {
        DUE.is("band " + length + " " + tip + ": least", x.band(0, length, tip, 0), least);
        DUE.is("band " + length + " " + tip + ": greatest", x.band(0, length, tip, 1), greatest);
    }

    private static void bandEnds() {
        DUE.sentence("BAND: STIFF (20 .. 99) with which it is CLEAN: the least, the greatest");
        band(Due.told("bow 50 0;"), 112, 0, 46, 54);
        // 16 .. 24, and 98 .. 106 by a TIP of 140.
        band(Due.told("bow 20 0;"), 112, 0, 20, 24);
        band(Due.told("bow 70 9;"), 112, 140, 98, 99);
    }

    private static void bandOfOne() {
        DUE.sentence("BAND: the least is the greatest");
        band(Due.told("bow 70 9;"), 112, 150, 99, 99);
        // 2240 by 93 is 24, 2352 by 93 is 25.
        band(Due.told("bow 20 0;"), 93, 0, 20, 20);
        AlikeArrows x = Due.told("bow 50 0;");
        x.tune(0, 0);
        band(x, 112, 0, 50, 50);
    }

    private static void bandNone() {
        DUE.sentence("BAND: NONE");
        band(Due.told("bow 70 9;"), 112, 160, Due.NONE, Due.NONE);
        // 2240 by 89 is 25.
        band(Due.told("bow 20 0;"), 89, 0, Due.NONE, Due.NONE);
        AlikeArrows x = Due.told("bow 48 0;");
        x.tune(0, 0);
        // 34 is 47 by 80, 35 is 49.
        band(x, 80, 0, Due.NONE, Due.NONE);
    }

    private static void bandRefused() {
        DUE.sentence("15: band: BAD (LENGTH 80 .. 130, TIP 0 .. 200)");
        AlikeArrows x = Due.told("bow 42 3;bow 50 0;");
        DUE.range("bow", b -> x.band(b, 112, 0, 0), 0, 44, 1, 46, Due.BAD);
        DUE.range("LENGTH", length -> x.band(0, length, 0, 0), 80, 32, 130, 52, Due.BAD);
        DUE.range("TIP", tip -> x.band(0, 112, tip, 0), 0, 44, 200, 64, Due.BAD);
        DUE.range("what", what -> x.band(0, 112, 0, what), 0, 44, 1, 52, Due.BAD);
        DUE.is("LENGTH 0", x.band(0, 0, 0, 0), Due.BAD);
        DUE.is("no bows", new AlikeArrows().band(0, 112, 0, 0), Due.BAD);
        AlikeArrows y = Due.told("bow 70 9;");
        DUE.is("BAD ahead of NONE", y.band(0, 112, 201, 0), Due.BAD);
        DUE.is("BAD ahead of NONE, what", y.band(0, 112, 200, 2), Due.BAD);
    }

    private static void says(AlikeArrows x, int by, int feather, int least, int greatest) {
        DUE.is("says " + by + " " + feather + ": least", x.says(by, feather, 0), least);
        DUE.is("says " + by + " " + feather + ": greatest", x.says(by, feather, 1), greatest);
    }

    private static void saysSides() {
        DUE.sentence("SAYS: x farther to the right than a bare one (x below 0: to the left)");
        AlikeArrows x = new AlikeArrows();
        // OFF 5: BARE -5, GOES -2: 3 to the right.
        says(x, 3, 5, 5, 6);
        says(x, -3, 5, -6, -5);
        says(x, 0, 5, -4, 4);
    }

    private static void saysOffEnds() {
        DUE.sentence("SAYS: all OFF (-60 .. 60)");
        AlikeArrows x = new AlikeArrows();
        // A FEATHER of 0 goes as a bare one.
        says(x, 0, 0, -60, 60);
        // OFF 60: -120, and -12 with FEATHER 9; OFF 61 would be -122 and -12.
        says(x, 108, 9, 60, 60);
        says(x, -108, 9, -60, -60);
        says(x, 110, 9, Due.NO, Due.NO);
        says(x, -110, 9, Due.NO, Due.NO);
        x.tune(2, 30);
        // -360 and -36: the farthest there is.
        says(x, 324, 9, 60, 60);
        says(x, -324, 9, -60, -60);
    }

    private static void saysNone() {
        DUE.sentence("SAYS: NONE, answered by NO");
        AlikeArrows x = new AlikeArrows();
        says(x, 1, 0, Due.NO, Due.NO);
        says(x, 1, 5, Due.NO, Due.NO);
        says(x, 2, 5, Due.NO, Due.NO);
        // A FEATHER of 9 takes 5 .. 15 nearly wholly, and 32 and more.
        says(x, 4, 9, Due.NO, Due.NO);
        says(x, 5, 9, 5, 5);
        says(x, 20, 9, Due.NO, Due.NO);
        says(x, 999, 9, Due.NO, Due.NO);
        says(x, -999, 9, Due.NO, Due.NO);
        x.tune(0, 20);
        says(x, 6, 5, Due.NO, Due.NO);
    }

    private static void saysWithoutWind() {
        DUE.sentence("SAYS: GOES without WIND");
        AlikeArrows x = new AlikeArrows();
        for (int wind : new int[] {-9, 9}) {
            x.tune(3, wind);
            says(x, 3, 5, 5, 6);
            says(x, 0, 0, -60, 60);
        }
    }

    private static void saysRefused() {
        DUE.sentence("16: says (x -999 .. 999, FEATHER 0 .. 9). NO: BAD, NONE");
        AlikeArrows x = new AlikeArrows();
        DUE.range("x", by -> x.says(by, 0, 0), -999, Due.NO, 999, Due.NO, Due.NO);
        DUE.range("FEATHER", f -> x.says(0, f, 1), 0, 60, 9, 4, Due.NO);
        DUE.range("what", what -> x.says(0, 0, what), 0, -60, 1, 60, Due.NO);
    }

    private static void alike(AlikeArrows x, int d, int e, int set, int many) {
        DUE.is("alike " + d + " " + e + ": set", x.alike(0, d, e, 0), set);
        DUE.is("alike " + d + " " + e + ": how many", x.alike(0, d, e, 1), many);
    }

    private static void alikeApart() {
        DUE.sentence("ALIKE: each two GOES are d apart at most");
        // GOES 10 and -5.
        AlikeArrows x = Due.told("stick 112 300 40 50 0 0;stick 112 300 55 50 0 0;bow 50 0;");
        alike(x, 14, 0, 1, 1);
        alike(x, 15, 0, 3, 2);
        alike(x, 16, 0, 3, 2);
        // The farthest apart that there are: OFF 118 goes -708, OFF -23 goes 138.
        AlikeArrows y = Due.told("stick 80 200 99 99 0 0;stick 130 200 20 20 200 0;bow 20 0;");
        y.tune(2, 30);
        y.tune(1, 0);
        alike(y, 845, 999, 1, 1);
        alike(y, 846, 999, 3, 2);
        alike(y, 999, 999, 3, 2);
    }

    private static void alikeDropsApart() {
        DUE.sentence("ALIKE: DROPS e at most");
        // DROPS 60, 61 and, by FEATHER 2, 62.
        AlikeArrows x = Due.told("stick 112 300 50 50 0 2;stick 112 305 50 50 0 0;stick 112 300 50 50 0 0;bow 50 0;");
        alike(x, 0, 0, 1, 1);
        alike(x, 0, 1, 3, 2);
        alike(x, 0, 2, 7, 3);
        AlikeArrows y = Due.told("stick 112 200 50 50 0 0;stick 112 600 70 50 200 9;bow 20 0;");
        // DROPS 100 and 409; both go the same way.
        alike(y, 999, 308, 1, 1);
        alike(y, 999, 309, 3, 2);
        alike(y, 999, 999, 3, 2);
    }

    private static void alikeEachTwo() {
        DUE.sentence("ALIKE: of which each two are alike, not only neighbours");
        // GOES 15, 10, 5; then DROPS 60, 61, 62.
        AlikeArrows x = Due.told("stick 112 300 35 50 0 0;stick 112 300 40 50 0 0;stick 112 300 45 50 0 0;bow 50 0;");
        alike(x, 5, 0, 3, 2);
        alike(x, 9, 0, 3, 2);
        alike(x, 10, 0, 7, 3);
        // DROPS 60, 61, 62.
        AlikeArrows z = Due.told("stick 112 310 50 50 0 0;stick 112 300 50 50 0 0;stick 112 305 50 50 0 0;bow 50 0;");
        alike(z, 0, 1, 5, 2);
        alike(z, 0, 2, 7, 3);
        // GOES alike by one, DROPS by another.
        AlikeArrows y = Due.told("stick 112 300 50 50 0 0;stick 112 310 50 50 0 0;stick 112 300 60 50 0 0;bow 50 0;");
        alike(y, 0, 0, 1, 1);
        alike(y, 0, 2, 3, 2);
        alike(y, 10, 0, 5, 2);
        alike(y, 10, 2, 7, 3);
    }

    private static void alikeLeastSet() {
        DUE.sentence("ALIKE: of several sets the least (bits)");
        // Single ones.
        AlikeArrows x = Due.told("stick 112 300 60 50 0 0;stick 112 300 50 50 0 0;stick 112 300 40 50 0 0;bow 50 0;");
        alike(x, 0, 0, 1, 1);
        // 0 and 3, or 1 and 2: 9, or 6.
        AlikeArrows y = Due.told("stick 112 300 60 50 0 0;stick 112 300 40 50 0 0;"
            + "stick 112 300 40 50 0 0;stick 112 300 60 50 0 0;bow 50 0;");
        alike(y, 0, 0, 6, 2);
        // The greater GOES first, the lesser first: 3, or 12, either way.
        AlikeArrows z = Due.told("stick 112 300 40 50 0 0;stick 112 300 40 50 0 0;"
            + "stick 112 300 60 50 0 0;stick 112 300 60 50 0 0;bow 50 0;");
        alike(z, 0, 0, 3, 2);
        AlikeArrows w = Due.told("stick 112 300 60 50 0 0;stick 112 300 60 50 0 0;"
            + "stick 112 300 40 50 0 0;stick 112 300 40 50 0 0;bow 50 0;");
        alike(w, 0, 0, 3, 2);
        // One that is alike with both of two which are not: the one with the lesser.
        AlikeArrows v = Due.told("stick 112 300 55 50 0 0;stick 112 300 45 50 0 0;stick 112 300 50 50 0 0;bow 50 0;");
        alike(v, 5, 0, 5, 2);
    }

    private static void alikeOfFew() {
        DUE.sentence("ALIKE of no sticks, of one");
        alike(Due.told("bow 50 0;"), 0, 0, 0, 0);
        alike(Due.told("bow 50 0;"), 999, 999, 0, 0);
        alike(Due.told("stick 112 300 50 50 0 0;bow 50 0;"), 0, 0, 1, 1);
    }

    private static void alikeOfTwelve() {
        DUE.sentence("ALIKE of twelve");
        String text = "stick 112 300 50 50 0 0;".repeat(11);
        alike(Due.told(text + "stick 112 300 40 50 0 0;bow 50 0;"), 0, 0, 2047, 11);
        alike(Due.told(text + "stick 112 300 40 50 0 0;bow 50 0;"), 10, 0, 4095, 12);
        alike(Due.told("stick 112 300 40 50 0 0;" + text + "bow 50 0;"), 0, 0, 4094, 11);
        // All differ: the first alone.
        StringBuilder each = new StringBuilder();
        for (int i = 0; i < 12; i++) each.append("stick 112 300 ").append(35 - i).append(" 50 0 0;");
        // OFF 15 .. 4.
        alike(Due.told(each + "bow 20 0;"), 0, 0, 1, 1);
        alike(Due.told(each + "bow 20 0;"), 1, 0, 3, 2);
        alike(Due.told(each + "bow 20 0;"), 15, 0, 4095, 12);
    }

    private static void alikeRefused() {
        DUE.sentence("17: alike (d, e 0 .. 999): the set (0), how many (1). BAD");
        AlikeArrows x = Due.told("stick 112 300 50 50 0 0;stick 112 310 50 50 0 0;stick 112 300 60 50 0 0;bow 50 0;bow 60 0;");
        DUE.range("bow", b -> x.alike(b, 0, 0, 0), 0, 1, 1, 1, Due.BAD);
        DUE.range("d", d -> x.alike(0, d, 0, 0), 0, 1, 999, 5, Due.BAD);
        DUE.range("e", e -> x.alike(0, 0, e, 0), 0, 1, 999, 3, Due.BAD);
        DUE.range("what", what -> x.alike(0, 999, 999, what), 0, 7, 1, 3, Due.BAD);
        DUE.is("no bows", Due.told("stick 112 300 50 50 0 0;").alike(0, 0, 0, 0), Due.BAD);
    }

    private static void turnedEitherSide() {
        DUE.sentence("TURNED: each NOTCH may be by either side");
        // Alike by the sides 0 and 0, 0 and 1, 1 and 0, 1 and 1, wherever the NOTCHES are.
        String[] pairs = {"40 90;40 99", "40 90;99 40", "90 40;40 99", "90 40;99 40"};
        for (String pair : pairs) {
            String[] stiff = pair.split(";");
            AlikeArrows x = Due.told("stick 112 300 " + stiff[0] + " 0 0;stick 112 300 " + stiff[1] + " 0 0;bow 50 0;");
            for (int k = 0; k < 4; k++) {
                DUE.is("turned " + pair + " " + k, x.turned(0, 0, 0), 2);
                x.turn(k % 2);
            }
        }
        // No way for three: each has two sides, and each two share one.
        AlikeArrows y = Due.told("stick 112 300 40 60 0 0;stick 112 300 60 70 0 0;stick 112 300 70 40 0 0;bow 50 0;");
        DUE.is("three, each two", y.turned(0, 0, 0), 2);
    }

    private static void turnedApart() {
        DUE.sentence("TURNED: GOES d apart at most, DROPS e at most");
        // GOES 10 or 0, and -5 or -15; DROPS 60 and 62.
        AlikeArrows x = Due.told("stick 112 300 40 50 0 0;stick 112 310 55 65 0 0;bow 50 0;");
        DUE.is("4", x.turned(0, 4, 2), 1);
        DUE.is("5", x.turned(0, 5, 2), 2);
        DUE.is("5, DROP 1", x.turned(0, 5, 1), 1);
        DUE.is("999, DROP 1", x.turned(0, 999, 1), 1);
        DUE.is("999, 999", x.turned(0, 999, 999), 2);
    }

    private static void turnedOfFew() {
        DUE.sentence("TURNED of no sticks, of one, of twelve");
        DUE.is("none", Due.told("bow 50 0;").turned(0, 999, 999), 0);
        DUE.is("one", Due.told("stick 112 300 40 60 0 0;bow 50 0;").turned(0, 0, 0), 1);
        DUE.is("twelve", Due.told("stick 112 300 40 60 0 0;".repeat(12) + "bow 50 0;").turned(0, 0, 0), 12);
        String half = "stick 112 300 40 60 0 0;".repeat(6) + "stick 112 300 60 70 0 0;".repeat(6) + "bow 50 0;";
        DUE.is("six by each side", Due.told(half).turned(0, 0, 0), 12);
    }

    private static void turnedRefused() {
        DUE.sentence("18: turned: BAD");
        AlikeArrows x = Due.told("stick 112 300 50 50 0 0;stick 112 310 50 50 0 0;stick 112 300 60 60 0 0;bow 50 0;bow 60 0;");
        DUE.range("bow", b -> x.turned(b, 0, 999), 0, 2, 1, 2, Due.BAD);
        DUE.range("d", d -> x.turned(0, d, 0), 0, 1, 999, 2, Due.BAD);
        DUE.range("e", e -> x.turned(0, 10, e), 0, 2, 999, 3, Due.BAD);
        DUE.is("no bows", Due.told("stick 112 300 50 50 0 0;").turned(0, 0, 0), Due.BAD);
    }

    private static void wreck(String stick, int wide, int least, int greatest) {
        AlikeArrows x = Due.told("stick " + stick + ";");
        DUE.is("wreck of " + stick + " " + wide + ": least", x.wreck(0, wide, 0), least);
        DUE.is("wreck of " + stick + " " + wide + ": greatest", x.wreck(0, wide, 1), greatest);
    }

    private static void wreckEnds() {
        DUE.sentence("WRECK: the DRAWS (20 .. 70) with which a stick is CLEAN: the least, the greatest");
        wreck("112 300 50 20 0 0", 0, 46, 54);
        wreck("112 300 50 20 0 0", 9, 28, 36);
        // 18 .. 26, 67 .. 75.
        wreck("112 300 22 20 0 0", 0, 20, 26);
        wreck("112 300 71 20 0 0", 0, 67, 70);
    }

    private static void wreckOfOne() {
        DUE.sentence("WRECK: the least is the greatest");
        // SPINES 16, 34 (less 18), 74, 92.
        wreck("130 300 20 20 10 0", 0, 20, 20);
        wreck("112 300 34 20 0 0", 9, 20, 20);
        wreck("112 300 74 20 0 0", 0, 70, 70);
        wreck("112 300 92 20 0 0", 9, 70, 70);
    }

    private static void wreckNone() {
        DUE.sentence("WRECK: NONE");
        wreck("130 300 20 20 20 0", 0, Due.NONE, Due.NONE);
        wreck("112 300 33 20 0 0", 9, Due.NONE, Due.NONE);
        wreck("112 300 75 20 0 0", 0, Due.NONE, Due.NONE);
        wreck("112 300 93 20 0 0", 9, Due.NONE, Due.NONE);
    }

    private static void wreckRefused() {
        DUE.sentence("19: wreck: BAD (WIDE 0 .. 9)");
        AlikeArrows x = Due.told("stick 112 300 50 20 0 0;stick 112 300 55 20 0 0;");
        DUE.range("stick", i -> x.wreck(i, 0, 0), 0, 46, 1, 51, Due.BAD);
        DUE.range("WIDE", wide -> x.wreck(0, wide, 0), 0, 46, 9, 28, Due.BAD);
        DUE.range("what", what -> x.wreck(0, 0, what), 0, 46, 1, 54, Due.BAD);
        DUE.is("no sticks", new AlikeArrows().wreck(0, 0, 0), Due.BAD);
        AlikeArrows y = Due.told("stick 112 300 99 99 0 0;");
        DUE.is("BAD ahead of NONE", y.wreck(0, 10, 0), Due.BAD);
        DUE.is("BAD ahead of NONE, what", y.wreck(0, 0, 2), Due.BAD);
    }

    private static void featherEnds() {
        DUE.sentence("BEST FEATHER: the FEATHER (0 .. 9) by which they are least together");
        // BARE 10 either way: each FEATHER takes one of it.
        for (int off : new int[] {-10, 10}) {
            DUE.is("far 0", byOff(off).feather(0, 0, 0), 9);
            DUE.is("far 99", byOff(off).feather(0, 0, 99), 0);
        }
        DUE.is("whatever FEATHER it has, far 0", told("112 300 60 20 0 9", "50 0").feather(0, 0, 0), 9);
        DUE.is("whatever FEATHER it has, CLEAN", told("112 300 50 20 0 9", "50 0").feather(0, 0, 99), 0);
    }

    private static void featherOfSeveral() {
        DUE.sentence("BEST FEATHER: of several the least");
        DUE.is("CLEAN: all are 0", byOff(0).feather(0, 0, 0), 0);
        DUE.is("CLEAN: all are 0, far 1", byOff(0).feather(0, 0, 1), 0);
        AlikeArrows x = byOff(-5);
        x.tune(2, 2);
        // BARE 1 goes by FEATHER 0 only.
        DUE.is("0 from FEATHER 1 on", x.feather(0, 0, 0), 1);
        AlikeArrows y = byOff(-6);
        y.tune(2, 5);
        // BARE 3: 3 (0), 2 (1 .. 3), 1 (4 .. 6), 0 (7 ..).
        DUE.is("0 from FEATHER 7 on", y.feather(0, 0, 0), 7);
    }

    private static void featherEitherSign() {
        DUE.sentence("BEST FEATHER: GOES without its sign");
        // BARE 10 and -4 by the wind: 10 .. 1 less 4: nothing by FEATHER 6.
        AlikeArrows x = byOff(-10);
        x.tune(3, -2);
        DUE.is("against the wind", x.feather(0, 0, 0), 6);
        AlikeArrows y = byOff(10);
        y.tune(3, 2);
        DUE.is("against the other wind", y.feather(0, 0, 0), 6);
        y.tune(3, -2);
        DUE.is("with the wind", y.feather(0, 0, 0), 9);
        // Not what it is less, but what is least: the wind alone makes it -18.
        AlikeArrows z = byOff(-5);
        z.tune(3, -9);
        DUE.is("the wind is more", z.feather(0, 0, 0), 0);
    }

    private static void featherRefused() {
        DUE.sentence("20: feather (far 0 .. 99): BAD");
        AlikeArrows x = Due.told("stick 112 300 60 20 0 0;stick 112 300 50 20 0 0;bow 50 0;bow 60 0;");
        DUE.range("far", far -> x.feather(0, 0, far), 0, 9, 99, 0, Due.BAD);
        DUE.range("stick", i -> x.feather(i, 0, 0), 0, 9, 1, 0, Due.BAD);
        DUE.range("bow", b -> x.feather(0, b, 0), 0, 9, 1, 0, Due.BAD);
        DUE.is("no sticks", Due.told("bow 50 0;").feather(0, 0, 0), Due.BAD);
        DUE.is("no bows", Due.told("stick 112 300 60 20 0 0;").feather(0, 0, 0), Due.BAD);
    }

    private static void warm(AlikeArrows x, int k, int less, int more) {
        DUE.is("warm " + k + ": no more", x.warm(0, k, 0), less);
        DUE.is("warm " + k + ": then", x.warm(0, k, 1), more);
    }

    private static void warmByNone() {
        DUE.sentence("WARM: DRAW 0 less; no sticks");
        warm(Due.told("stick 112 300 54 20 0 0;stick 112 300 46 20 0 0;stick 112 300 45 20 0 0;bow 50 0;"), 0, 0, 0);
        warm(Due.told("bow 50 0;"), 20, 0, 0);
    }

    private static void warmEnds() {
        DUE.sentence("WARM: how many that are CLEAN are it no more; how many that are not are it then");
        // NEED 50 makes 46 .. 54 CLEAN, NEED 49 45 .. 53, NEED 30 26 .. 34.
        AlikeArrows x = Due.told("stick 112 300 54 20 0 0;stick 112 300 46 20 0 0;stick 112 300 45 20 0 0;"
            + "stick 112 300 26 20 0 0;stick 112 300 34 20 0 0;stick 112 300 25 20 0 0;bow 50 0;");
        warm(x, 1, 1, 1);
        warm(x, 20, 2, 2);
        warm(Due.told("stick 112 300 50 20 0 0;".repeat(12) + "bow 50 0;"), 5, 12, 0);
        warm(Due.told("stick 112 300 45 20 0 0;".repeat(12) + "bow 50 0;"), 1, 0, 12);
        // The bow is WIDE as before: NEED 88 less 20.
        warm(Due.told("stick 112 300 72 20 0 0;stick 112 300 73 20 0 0;stick 112 300 84 20 0 0;bow 70 9;"), 20, 1, 1);
    }

    private static void warmOneAtLeast() {
        DUE.sentence("WARM: a bow with DRAW k less (1 at least)");
        // SPINES 5 and -3: a DRAW of 1 is 4 off either way.
        AlikeArrows x = Due.told("stick 112 300 25 20 200 0;stick 130 300 20 20 200 0;bow 20 0;");
        warm(x, 18, 0, 1);
        warm(x, 19, 0, 2);
        warm(x, 20, 0, 2);
        x.tune(0, 3);
        // A DRAW of 0 would be 3 off.
        warm(x, 20, 0, 0);
        AlikeArrows y = Due.told("stick 112 300 26 20 200 0;stick 112 300 25 20 200 0;bow 21 0;");
        // SPINES 6 and 5; DRAW 21 less 20 is 1 by itself.
        warm(y, 20, 0, 1);
        warm(y, 19, 0, 2);
    }

    private static void warmRefused() {
        DUE.sentence("21: warm (k 0 .. 20): BAD");
        AlikeArrows x = Due.told("stick 112 300 50 20 0 0;stick 112 300 30 20 0 0;stick 112 300 31 20 0 0;bow 50 0;bow 35 0;");
        DUE.range("k", k -> x.warm(0, k, 1), 0, 0, 20, 2, Due.BAD);
        DUE.range("bow", b -> x.warm(b, 20, 0), 0, 1, 1, 1, Due.BAD);
        DUE.range("what", what -> x.warm(0, 20, what), 0, 1, 1, 2, Due.BAD);
        DUE.is("no bows", Due.told("stick 112 300 50 20 0 0;").warm(0, 0, 0), Due.BAD);
    }
}
