/** One test for each sentence on sticks, bows, archers, TUNES and ACTS that names an edge: promises 5 to 13. */
public final class StickEdgesTest {
    private static final Due DUE = new Due("StickEdgesTest");

    public static void main(String[] args) {
        sticks();
        bows();
        archers();
        aims();
        needs();
        clear();
        slap();
        side();
        wind();
        noSuchTune();
        cutToEighty();
        scrapeToTwenty();
        scrapeToTwoHundred();
        loadToTwoHundred();
        turnEitherWay();
        cutRefused();
        scrapeRefused();
        loadRefused();
        turnRefused();
        leastOfNone();
        leastFromTo();
        leastFifteenCuts();
        leastFifteenScrapes();
        leastFifteenLoads();
        leastCutsAsFar();
        leastScrapesAsFarByStiff();
        leastScrapesAsFarByWeight();
        leastLoadsAsFar();
        leastTurnAsOne();
        leastFewest();
        leastWithoutTurn();
        leastFewestCuts();
        leastFewestScrapes();
        leastNone();
        leastChangesNothing();
        leastRefused();
        DUE.end();
    }

    private static AlikeArrows one(String stick) {
        return Due.told("stick " + stick + ";");
    }

    private static void sticks() {
        DUE.sentence("5: Of a stick: 0 LENGTH .. 6 the side of its NOTCH. BAD");
        AlikeArrows x = Due.told("stick 80 200 20 99 0 0;stick 130 600 99 20 200 9;");
        x.turn(1);
        DUE.range("stick 0", what -> x.stick(0, what), 0, 80, 6, 0, Due.BAD);
        DUE.range("stick 1", what -> x.stick(1, what), 0, 130, 6, 1, Due.BAD);
        DUE.range("LENGTH", i -> x.stick(i, 0), 0, 80, 1, 130, Due.BAD);
        DUE.is("both wrong", x.stick(2, 7), Due.BAD);
    }

    private static void bows() {
        DUE.sentence("6: Of a bow: 0 DRAW, 1 WIDE, 2 NEED. BAD");
        AlikeArrows x = Due.told("bow 20 0;bow 70 9;");
        DUE.range("bow 0", what -> x.bow(0, what), 0, 20, 2, 20, Due.BAD);
        DUE.range("bow 1", what -> x.bow(1, what), 0, 70, 2, 88, Due.BAD);
        DUE.range("DRAW", b -> x.bow(b, 0), 0, 20, 1, 70, Due.BAD);
        DUE.is("both wrong", x.bow(2, 3), Due.BAD);
    }

    private static void archers() {
        DUE.sentence("7: Of an archer: 0 AIM, 1 WANDER. NO: BAD");
        AlikeArrows x = Due.told("archer left 30 0;archer right 30 20;");
        DUE.range("archer 0", what -> x.archer(0, what), 0, -30, 1, 0, Due.NO);
        DUE.range("archer 1", what -> x.archer(1, what), 0, 30, 1, 20, Due.NO);
        DUE.range("AIM", a -> x.archer(a, 0), 0, -30, 1, 30, Due.NO);
        DUE.is("both wrong", x.archer(2, 2), Due.NO);
    }

    private static void aims() {
        DUE.sentence("AIM (-30 .. 30: below 0 to the left); left: AIM is less 0 by A");
        AlikeArrows x = Due.told("archer left 1 5;archer right 1 5;archer left 0 5;");
        DUE.is("left 1", x.archer(0, 0), -1);
        DUE.is("right 1", x.archer(1, 0), 1);
        DUE.is("left 0", x.archer(2, 0), 0);
        DUE.is("WANDER of a left one", x.archer(0, 1), 5);
    }

    private static void needs() {
        DUE.sentence("NEED of a bow: DRAW, and WIDE twice");
        AlikeArrows x = Due.told("bow 20 0;bow 70 9;bow 70 0;");
        DUE.is("least", x.bow(0, 2), 20);
        DUE.is("greatest", x.bow(1, 2), 88);
        DUE.is("not wide", x.bow(2, 2), 70);
    }

    /** The first value, both ends and what is beyond them; what is refused leaves it as it was. */
    private static void tune(int what, int first, int least, int most) {
        AlikeArrows x = new AlikeArrows();
        for (int v : new int[] {least - 1, most + 1, Integer.MIN_VALUE, Integer.MAX_VALUE}) {
            DUE.is("becomes " + v, x.tune(what, v), Due.NO);
        }
        DUE.is("becomes " + least, x.tune(what, least), first);
        DUE.is("beyond", x.tune(what, least - 1), Due.NO);
        DUE.is("becomes " + most, x.tune(what, most), least);
        DUE.is("beyond", x.tune(what, most + 1), Due.NO);
        DUE.is("becomes " + most + " again", x.tune(what, most), most);
        int[] others = {4, 15, 10, 0};
        for (int other = 0; other <= 3; other++) {
            if (other != what) DUE.is("TUNE " + other + " stays", x.tune(other, others[other]), others[other]);
        }
    }

    private static void clear() {
        DUE.sentence("TUNES: 0 CLEAR (0 .. 20; 4 at first)");
        tune(0, 4, 0, 20);
    }

    private static void slap() {
        DUE.sentence("TUNES: 1 SLAP (0 .. 60; 15)");
        tune(1, 15, 0, 60);
    }

    private static void side() {
        DUE.sentence("TUNES: 2 SIDE (0 .. 30; 10)");
        tune(2, 10, 0, 30);
    }

    private static void wind() {
        DUE.sentence("TUNES: 3 WIND (-9 .. 9; 0)");
        tune(3, 0, -9, 9);
    }

    private static void noSuchTune() {
        DUE.sentence("8: A TUNE becomes v: what it was. NO: BAD");
        DUE.range("tune", what -> new AlikeArrows().tune(what, 0), 0, 4, 3, 0, Due.NO);
        AlikeArrows x = new AlikeArrows();
        x.tune(3, -9);
        DUE.is("what it was may be below 0", x.tune(3, 0), -9);
    }

    private static void cutToEighty() {
        DUE.sentence("CUT (LENGTH one less, 80 at least)");
        AlikeArrows x = one("130 300 50 40 30 3");
        for (int length = 129; length >= 80; length--) DUE.is("cut to " + length, x.cut(0), length);
        DUE.is("cut of 80", x.cut(0), Due.STATE);
        DUE.is("LENGTH", x.stick(0, 0), 80);
        DUE.is("cut of 80, told", one("80 300 50 40 30 3").cut(0), Due.STATE);
    }

    private static void scrapeToTwenty() {
        DUE.sentence("SCRAPE (STIFF of both sides one less, 20 at least each)");
        for (int notch = 0; notch <= 1; notch++) {
            scraped("21 99", notch, 598, 20, 98);
            scraped("99 21", notch, 598, 98, 20);
            scraped("21 21", notch, 598, 20, 20);
            scraped("20 99", notch, Due.STATE, 20, 99);
            scraped("99 20", notch, Due.STATE, 99, 20);
            scraped("20 20", notch, Due.STATE, 20, 20);
        }
    }

    private static void scraped(String stiff, int notch, int want, int stiff0, int stiff1) {
        AlikeArrows x = one("100 600 " + stiff + " 0 0");
        if (notch == 1) x.turn(0);
        DUE.is("scrape of " + stiff, x.scrape(0), want);
        if (want != Due.STATE) DUE.is("scrape again of " + stiff, x.scrape(0), Due.STATE);
        DUE.is("WEIGHT of " + stiff, x.stick(0, 1), want == Due.STATE ? 600 : 598);
        DUE.is("side 0 of " + stiff, x.stick(0, 2), stiff0);
        DUE.is("side 1 of " + stiff, x.stick(0, 3), stiff1);
    }

    private static void scrapeToTwoHundred() {
        DUE.sentence("SCRAPE (WEIGHT 2 less, 200 at least)");
        AlikeArrows x = one("100 202 50 60 0 0");
        DUE.is("scrape of 202", x.scrape(0), 200);
        DUE.is("scrape of 200", x.scrape(0), Due.STATE);
        DUE.is("STIFF stays", x.stick(0, 2), 49);
        AlikeArrows y = one("100 203 50 60 200 0");
        DUE.is("scrape of 203", y.scrape(0), 201);
        DUE.is("scrape of 201, whatever the TIP", y.scrape(0), Due.STATE);
        DUE.is("WEIGHT stays", y.stick(0, 1), 201);
    }

    private static void loadToTwoHundred() {
        DUE.sentence("LOAD (TIP 5 more, 200 at most)");
        AlikeArrows x = one("100 600 50 60 0 0");
        for (int tip = 5; tip <= 200; tip += 5) DUE.is("load to " + tip, x.load(0), tip);
        DUE.is("load of 200", x.load(0), Due.STATE);
        DUE.is("TIP", x.stick(0, 4), 200);
        for (int tip = 196; tip <= 200; tip++) {
            AlikeArrows y = one("100 600 50 60 " + tip + " 0");
            DUE.is("load of " + tip, y.load(0), Due.STATE);
            DUE.is("TIP stays", y.stick(0, 4), tip);
        }
    }

    private static void turnEitherWay() {
        DUE.sentence("TURN (the NOTCH to the other side)");
        AlikeArrows x = one("80 200 20 20 200 9");
        for (int k = 1; k <= 5; k++) DUE.is("turn " + k, x.turn(0), k % 2);
    }

    private static void cutRefused() {
        DUE.sentence("9: cut: BAD; STATE: it may not be");
        DUE.range("cut", i -> Due.told("stick 81 200 20 20 0 0;stick 80 200 20 20 0 0;").cut(i), 0, 80, 1, Due.STATE, Due.BAD);
        DUE.is("no sticks", new AlikeArrows().cut(0), Due.BAD);
    }

    private static void scrapeRefused() {
        DUE.sentence("10: scrape: BAD; STATE: it may not be");
        DUE.range("scrape", i -> Due.told("stick 80 202 21 21 0 0;stick 80 200 20 20 0 0;").scrape(i), 0, 200, 1, Due.STATE, Due.BAD);
        DUE.is("no sticks", new AlikeArrows().scrape(0), Due.BAD);
    }

    private static void loadRefused() {
        DUE.sentence("11: load: BAD; STATE: it may not be");
        DUE.range("load", i -> Due.told("stick 80 200 20 20 195 0;stick 80 200 20 20 200 0;").load(i), 0, 200, 1, Due.STATE, Due.BAD);
        DUE.is("no sticks", new AlikeArrows().load(0), Due.BAD);
    }

    private static void turnRefused() {
        DUE.sentence("12: turn: BAD");
        DUE.range("turn", i -> Due.told("stick 80 200 20 20 0 0;stick 80 200 20 20 0 0;").turn(i), 0, 1, 1, 1, Due.BAD);
        DUE.is("no sticks", new AlikeArrows().turn(0), Due.BAD);
    }

    /** All five answers by the last numbers; one number for all, if there is but one. */
    private static void least(AlikeArrows x, int a, int b, int... want) {
        for (int what = 0; what <= 4; what++) {
            DUE.is("least(0, 0, " + a + ", " + b + ", " + what + ")", x.least(0, 0, a, b, what), want.length == 1 ? want[0] : want[what]);
        }
    }

    private static void least(String stick, String bow, int... want) {
        least(Due.told("stick " + stick + ";bow " + bow + ";"), 200, 800, want);
    }

    private static void leastOfNone() {
        DUE.sentence("LEAST ACTS: none are needed");
        least("112 300 54 20 0 0", "50 0", 0, 0, 0, 0, 0);
        least("112 300 46 20 0 0", "50 0", 0, 0, 0, 0, 0);
        // No act may be at all.
        least("80 200 20 20 200 0", "20 0", Due.NONE);
        least("80 200 20 20 199 0", "20 0", Due.NONE);
        AlikeArrows x = Due.told("stick 80 200 20 20 200 0;bow 20 0;");
        x.tune(0, 12);
        // SPINE 28 less 20, NEED 20.
        least(x, 400, 400, 0, 0, 0, 0, 0);
    }

    private static void leastFromTo() {
        DUE.sentence("WEIGHT and TIP together are from a to b");
        AlikeArrows x = Due.told("stick 112 300 50 50 20 0;bow 48 0;");
        least(x, 320, 320, 0, 0, 0, 0, 0);
        least(x, 200, 320, 0, 0, 0, 0, 0);
        least(x, 320, 800, 0, 0, 0, 0, 0);
        // One scrape: 318. One load: 325.
        least(x, 200, 319, 1, 0, 1, 0, 0);
        least(x, 200, 318, 1, 0, 1, 0, 0);
        least(x, 321, 800, 1, 0, 0, 1, 0);
        least(x, 325, 800, 1, 0, 0, 1, 0);
        // Two scrapes and a load: 321; three and a load: 319.
        least(x, 321, 321, 3, 0, 2, 1, 0);
        least(x, 319, 319, 4, 0, 3, 1, 0);
    }

    private static void leastFifteenCuts() {
        DUE.sentence("LEAST ACTS: CUTS 0 .. 15");
        // By LENGTH 115: 62 times 112 by 115 is 60, OFF -4; by 116 it is 59.
        least("130 300 62 20 0 0", "64 0", 15, 15, 0, 0, 0);
        // It would take LENGTH 114, the sixteenth: 57 times 112 by 114 is 56, by 115 it is 55.
        least("130 300 57 20 0 0", "60 0", Due.NONE);
    }

    private static void leastFifteenScrapes() {
        DUE.sentence("LEAST ACTS: SCRAPES 0 .. 15");
        // A TIP of 200 takes 20, and takes no load: OFF 19, 20.
        least("112 400 69 69 200 0", "30 0", 15, 0, 15, 0, 0);
        least("112 400 70 70 200 0", "30 0", Due.NONE);
    }

    private static void leastFifteenLoads() {
        DUE.sentence("LEAST ACTS: LOADS 0 .. 15");
        // SPINE 28, no cut and no scrape: 75 grains come by 15 loads, 80 by 16.
        AlikeArrows x = Due.told("stick 80 300 20 20 0 0;bow 24 0;");
        least(x, 371, 375, 15, 0, 0, 15, 0);
        least(x, 375, 375, 15, 0, 0, 15, 0);
        least(x, 376, 380, Due.NONE);
        least(x, 380, 380, Due.NONE);
    }

    private static void leastCutsAsFar() {
        DUE.sentence("LEAST ACTS: CUTS as far as they may be");
        // 59 times 112 by 81 is 81, by 80 82, by 79 would be 83.
        least("81 300 59 20 0 0", "68 9", 1, 1, 0, 0, 0);
        least("81 300 59 20 0 0", "69 9", Due.NONE);
        least("80 300 59 20 0 0", "68 9", 0, 0, 0, 0, 0);
        least("80 300 59 20 0 0", "69 9", Due.NONE);
    }

    private static void leastScrapesAsFarByStiff() {
        DUE.sentence("LEAST ACTS: SCRAPES as far as they may be (20 at least each)");
        // OFF 5, 6 with a TIP that takes no load; the other side is what stands in the way.
        least("112 300 55 21 200 0", "30 0", 1, 0, 1, 0, 0);
        least("112 300 55 20 200 0", "30 0", Due.NONE);
        least("112 300 56 22 200 0", "30 0", 2, 0, 2, 0, 0);
        least("112 300 56 21 200 0", "30 0", Due.NONE);
        AlikeArrows x = Due.told("stick 112 300 21 55 200 0;bow 30 0;");
        x.turn(0);
        least(x, 200, 800, 1, 0, 1, 0, 0);
        AlikeArrows y = Due.told("stick 112 300 20 55 200 0;bow 30 0;");
        y.turn(0);
        least(y, 200, 800, Due.NONE);
        // The side of the NOTCH itself: SPINE 29, 28 behind a scrape; 28, and only two loads make it 27.
        least("80 300 21 99 0 0", "24 0", 1, 0, 1, 0, 0);
        least("80 300 20 99 0 0", "23 0", 2, 0, 0, 2, 0);
    }

    private static void leastScrapesAsFarByWeight() {
        DUE.sentence("LEAST ACTS: SCRAPES as far as they may be (WEIGHT 200 at least)");
        least("112 202 55 55 200 0", "30 0", 1, 0, 1, 0, 0);
        least("112 201 55 55 200 0", "30 0", Due.NONE);
        least("112 200 55 55 200 0", "30 0", Due.NONE);
        least("112 204 56 56 200 0", "30 0", 2, 0, 2, 0, 0);
        least("112 203 56 56 200 0", "30 0", Due.NONE);
    }

    private static void leastLoadsAsFar() {
        DUE.sentence("LEAST ACTS: LOADS as far as they may be");
        // SPINE 55 less 19 is OFF 5; a TIP of 200 takes 20. No scrapes.
        least("112 300 55 20 195 0", "31 0", 1, 0, 0, 1, 0);
        for (int tip = 196; tip <= 199; tip++) least("112 300 55 20 " + tip + " 0", "31 0", Due.NONE);
        // Two would do.
        least("112 300 56 20 190 0", "32 0", 2, 0, 0, 2, 0);
        least("112 300 56 20 191 0", "32 0", Due.NONE);
    }

    private static void leastTurnAsOne() {
        DUE.sentence("LEAST ACTS: TURN or not (as one)");
        least("112 300 60 50 0 0", "50 0", 1, 0, 0, 0, 1);
        least("112 300 99 55 0 0", "50 0", 2, 0, 1, 0, 1);
        AlikeArrows x = Due.told("stick 112 300 50 60 0 0;bow 50 0;");
        x.turn(0);
        least(x, 200, 800, 1, 0, 0, 0, 1);
        // Two turns are none, so both sides the same is no way in.
        least("112 300 99 99 0 0", "50 0", Due.NONE);
    }

    private static void leastFewest() {
        DUE.sentence("LEAST ACTS: the fewest together");
        // Two scrapes, or a turn; a scrape, or two loads.
        least("112 300 56 50 0 0", "50 0", 1, 0, 0, 0, 1);
        least("112 300 55 30 0 0", "50 0", 1, 0, 1, 0, 0);
        // A turn and a scrape are two, three scrapes more.
        least("112 300 57 55 0 0", "50 0", 2, 0, 1, 0, 1);
    }

    private static void leastWithoutTurn() {
        DUE.sentence("LEAST ACTS: of several one without TURN");
        // A scrape, or a turn.
        least("112 300 55 54 0 0", "50 0", 1, 0, 1, 0, 0);
        // A cut, or a turn, which has fewer cuts.
        least("83 300 50 52 0 0", "70 1", 1, 1, 0, 0, 0);
        // Two scrapes, or a turn and a scrape.
        least("112 300 56 55 0 0", "50 0", 2, 0, 2, 0, 0);
    }

    private static void leastFewestCuts() {
        DUE.sentence("LEAST ACTS: of several that with the fewest CUTS");
        // SPINE 84 is one too much: a cut and a scrape make it 83 (69 times 112 by 87 is 88, less 5), and two loads, too.
        AlikeArrows x = Due.told("stick 88 300 70 70 53 0;bow 65 9;");
        x.tune(0, 0);
        least(x, 200, 800, 2, 0, 0, 2, 0);
        least(x, 200, 362, 2, 1, 1, 0, 0);
    }

    private static void leastFewestScrapes() {
        DUE.sentence("LEAST ACTS: of several that with the fewest SCRAPES");
        // A scrape, or a load, by which the TIP takes one.
        least("112 300 55 55 5 0", "50 0", 1, 0, 0, 1, 0);
        // Two scrapes, a scrape and a load, or no two loads.
        least("112 300 56 56 5 0", "50 0", 2, 0, 1, 1, 0);
    }

    private static void leastNone() {
        DUE.sentence("LEAST ACTS: NONE");
        AlikeArrows x = Due.told("stick 112 300 50 50 0 0;bow 50 0;");
        least(x, 200, 200, Due.NONE);
        least(x, 800, 800, Due.NONE);
        // OFF as it is, but fifteen scrapes make WEIGHT 270.
        least(x, 200, 269, Due.NONE);
        // WEIGHT and TIP as they are, but OFF is too far off.
        least("112 300 20 20 0 0", "70 9", Due.NONE);
    }

    private static void leastChangesNothing() {
        DUE.sentence("LEAST ACTS are only told");
        AlikeArrows x = Due.told("stick 112 300 57 55 0 0;bow 50 0;");
        String before = Seen.of(x);
        least(x, 200, 800, 2, 0, 1, 0, 1);
        DUE.is("all is as before", Seen.of(x).equals(before) ? 1 : 0, 1);
    }

    private static void leastRefused() {
        DUE.sentence("13: least: BAD (a 200 .. b, b .. 800)");
        AlikeArrows x = Due.told("stick 112 300 50 50 0 0;stick 112 300 55 55 0 0;bow 50 0;bow 51 0;");
        DUE.range("a", a -> x.least(0, 0, a, 300, 0), 200, 0, 300, 0, Due.BAD);
        DUE.range("b", b -> x.least(0, 0, 300, b, 0), 300, 0, 800, 0, Due.BAD);
        DUE.is("a 201, b 200", x.least(0, 0, 201, 200, 0), Due.BAD);
        DUE.is("a 800, b 800", x.least(0, 0, 800, 800, 0), Due.NONE);
        DUE.is("a 801, b 801", x.least(0, 0, 801, 801, 0), Due.BAD);
        DUE.is("a 199, b 199", x.least(0, 0, 199, 199, 0), Due.BAD);
        DUE.range("what", what -> x.least(1, 0, 200, 800, what), 0, 1, 4, 0, Due.BAD);
        DUE.range("stick", i -> x.least(i, 0, 200, 800, 0), 0, 0, 1, 1, Due.BAD);
        DUE.range("bow", b -> x.least(0, b, 200, 800, 0), 0, 0, 1, 0, Due.BAD);
        // BAD ahead of NONE.
        DUE.range("NONE by what", what -> x.least(0, 0, 200, 200, what), 0, Due.NONE, 4, Due.NONE, Due.BAD);
        DUE.is("nothing is told", new AlikeArrows().least(0, 0, 200, 800, 0), Due.BAD);
    }
}
