/** Promises 9 cut, 10 scrape, 11 load, 12 turn, 13 least. */
public final class ActsTest {
    private static final Due DUE = new Due("ActsTest");
    private static final int[] WRONGS = {1, -1, Integer.MIN_VALUE, Integer.MAX_VALUE};

    public static void main(String[] args) {
        cuts();
        scrapes();
        loads();
        turns();
        leastOfNothing();
        leastByCuts();
        leastByScrapes();
        leastByLoads();
        leastByTurn();
        leastOfSeveral();
        leastAsFarAsMayBe();
        leastOfFifteen();
        leastByTunes();
        leastWrong();
        DUE.end();
    }

    private static void cuts() {
        AlikeArrows x = Due.told("stick 82 300 50 40 30 3;");
        DUE.is("cut", x.cut(0), 81);
        DUE.is("cut to the least", x.cut(0), 80);
        DUE.is("cut beyond", x.cut(0), Due.STATE);
        DUE.is("LENGTH", x.stick(0, 0), 80);
        DUE.is("WEIGHT stays", x.stick(0, 1), 300);
        DUE.is("STIFF stays", x.stick(0, 2), 50);
        for (int wrong : WRONGS) DUE.is("cut " + wrong, x.cut(wrong), Due.BAD);
    }

    private static void scrapes() {
        AlikeArrows x = Due.told("stick 82 300 21 40 30 3;");
        DUE.is("scrape", x.scrape(0), 298);
        DUE.is("side 0", x.stick(0, 2), 20);
        DUE.is("side 1", x.stick(0, 3), 39);
        DUE.is("side 0 would be 19", x.scrape(0), Due.STATE);
        DUE.is("WEIGHT", x.stick(0, 1), 298);
        DUE.is("side 1 stays", x.stick(0, 3), 39);
        DUE.is("LENGTH stays", x.stick(0, 0), 82);
        DUE.is("side 1 would be 19", Due.told("stick 82 300 40 20 30 3;").scrape(0), Due.STATE);
        DUE.is("WEIGHT would be 199", Due.told("stick 82 201 40 40 30 3;").scrape(0), Due.STATE);
        AlikeArrows light = Due.told("stick 82 202 40 40 30 3;");
        DUE.is("WEIGHT 200", light.scrape(0), 200);
        DUE.is("WEIGHT would be 198", light.scrape(0), Due.STATE);
        for (int wrong : WRONGS) DUE.is("scrape " + wrong, x.scrape(wrong), Due.BAD);
    }

    private static void loads() {
        AlikeArrows x = Due.told("stick 82 300 21 40 190 3;");
        DUE.is("load", x.load(0), 195);
        DUE.is("load to the most", x.load(0), 200);
        DUE.is("load beyond", x.load(0), Due.STATE);
        DUE.is("TIP", x.stick(0, 4), 200);
        DUE.is("WEIGHT stays", x.stick(0, 1), 300);
        DUE.is("TIP would be 201", Due.told("stick 82 300 21 40 196 3;").load(0), Due.STATE);
        for (int wrong : WRONGS) DUE.is("load " + wrong, x.load(wrong), Due.BAD);
    }

    private static void turns() {
        AlikeArrows x = Due.told("stick 112 300 50 40 0 3;bow 40 0;");
        DUE.is("by side 0", x.flight(0, 0, 0), 50);
        DUE.is("turn", x.turn(0), 1);
        DUE.is("by side 1", x.flight(0, 0, 0), 40);
        DUE.is("turn back", x.turn(0), 0);
        DUE.is("by side 0 again", x.flight(0, 0, 0), 50);
        for (int wrong : WRONGS) DUE.is("turn " + wrong, x.turn(wrong), Due.BAD);
    }

    /** All five answers of least() by one call each. */
    private static void least(AlikeArrows x, int a, int b, int... want) {
        for (int what = 0; what <= 4; what++) {
            DUE.is("least " + a + " " + b + " " + what, x.least(0, 0, a, b, what), want.length == 1 ? want[0] : want[what]);
        }
    }

    private static void leastOfNothing() {
        AlikeArrows x = Due.told("stick 112 300 44 40 20 3;bow 40 1;");
        // SPINE 42 is OFF 0; WEIGHT and TIP are 320.
        least(x, 200, 800, 0, 0, 0, 0, 0);
        least(x, 320, 320, 0, 0, 0, 0, 0);
        // Two scrapes and a load: 4 less, 5 more.
        least(x, 321, 321, 3, 0, 2, 1, 0);
        least(x, 200, 200, Due.NONE);
        least(x, 800, 800, Due.NONE);
    }

    private static void leastByCuts() {
        // SPINE by LENGTH: 50 times 112 by 112 is 50, by 110 50.9; OFF -5 needs 51 at least: LENGTH 109 (51.3).
        AlikeArrows x = Due.told("stick 112 300 50 50 0 3;bow 55 0;");
        least(x, 300, 300, 3, 3, 0, 0, 0);
    }

    private static void leastByScrapes() {
        // OFF 7: three scrapes, WEIGHT 294.
        AlikeArrows x = Due.told("stick 112 300 50 50 0 3;bow 43 0;");
        least(x, 200, 800, 3, 0, 3, 0, 0);
        least(x, 294, 294, 3, 0, 3, 0, 0);
        // Two scrapes and two loads are preferred to three scrapes and a load.
        least(x, 295, 800, 4, 0, 2, 2, 0);
    }

    private static void leastByLoads() {
        // WEIGHT and TIP 300 must be 320: four loads; OFF 0 is -2 then.
        AlikeArrows x = Due.told("stick 112 300 50 50 0 3;bow 50 0;");
        least(x, 320, 321, 4, 0, 0, 4, 0);
        least(x, 296, 297, 2, 0, 2, 0, 0);
        least(x, 298, 299, 1, 0, 1, 0, 0);
        least(x, 301, 301, 3, 0, 2, 1, 0);
    }

    private static void leastByTurn() {
        AlikeArrows x = Due.told("stick 112 300 60 50 0 3;bow 50 0;");
        least(x, 300, 300, 1, 0, 0, 0, 1);
        x.turn(0);
        least(x, 300, 300, 0, 0, 0, 0, 0);
        x.turn(0);
        DUE.is("least changes nothing", x.stick(0, 0) + x.stick(0, 1) + x.stick(0, 2) + x.stick(0, 4), 472);
        DUE.is("NOTCH stays", x.stick(0, 6), 0);
        AlikeArrows y = Due.told("stick 112 300 50 60 0 3;bow 50 0;");
        y.turn(0);
        least(y, 300, 300, 1, 0, 0, 0, 1);
    }

    private static void leastOfSeveral() {
        // OFF 5: one scrape, or one turn (OFF 4): the one without a turn.
        least(Due.told("stick 112 300 55 54 0 3;bow 50 0;"), 200, 800, 1, 0, 1, 0, 0);
        // OFF 5, TIP 5: one scrape or one load: the fewest scrapes of those with no cuts.
        least(Due.told("stick 112 300 55 55 5 3;bow 50 0;"), 200, 800, 1, 0, 0, 1, 0);
        // OFF -5 by 83 quarters: one cut or one turn: the one without a turn.
        least(Due.told("stick 83 300 50 51 0 3;bow 72 0;bow 70 1;"), 200, 800, Due.BAD);
        least(Due.told("stick 83 300 50 52 0 3;bow 70 1;"), 200, 800, 1, 1, 0, 0, 0);
        // OFF -4 with WEIGHT and TIP 6 too much: three scrapes (OFF -7) and as many cuts, or a turn instead of cuts.
        least(Due.told("stick 112 300 50 53 0 3;bow 54 0;"), 200, 294, 4, 0, 3, 0, 1);
    }

    private static void leastAsFarAsMayBe() {
        // Two cuts would do, but one alone may be.
        least(Due.told("stick 81 300 50 50 0 3;bow 70 3;"), 200, 800, Due.NONE);
        least(Due.told("stick 81 300 50 50 0 3;bow 70 2;"), 200, 800, 1, 1, 0, 0, 0);
        least(Due.told("stick 81 300 50 50 0 3;bow 70 1;"), 200, 800, 0, 0, 0, 0, 0);
        // Scrapes may not be as side 1 is 20: loads take their place.
        least(Due.told("stick 112 300 55 20 0 3;bow 50 0;"), 200, 800, 2, 0, 0, 2, 0);
        // Scrapes may not be as WEIGHT is 201.
        least(Due.told("stick 112 201 55 55 0 3;bow 50 0;"), 200, 800, 2, 0, 0, 2, 0);
        // Loads may not be as TIP is 196.
        least(Due.told("stick 112 300 74 74 196 3;bow 50 0;"), 200, 800, 1, 0, 1, 0, 0);
        least(Due.told("stick 112 300 74 20 196 3;bow 50 0;"), 200, 800, Due.NONE);
        least(Due.told("stick 112 300 74 20 195 3;bow 50 0;"), 200, 800, 1, 0, 0, 1, 0);
    }

    private static void leastOfFifteen() {
        // Fifteen scrapes bring OFF 19 to 4; OFF 20 takes two loads too.
        least(Due.told("stick 112 400 69 69 0 3;bow 50 0;"), 200, 800, 15, 0, 15, 0, 0);
        least(Due.told("stick 112 400 70 70 0 3;bow 50 0;"), 200, 800, 17, 0, 15, 2, 0);
        // Fifteen loads: 75 grains more; 80 more may not be.
        least(Due.told("stick 112 300 54 54 0 3;bow 50 0;"), 375, 375, 15, 0, 0, 15, 0);
        least(Due.told("stick 112 300 54 54 0 3;bow 50 0;"), 376, 400, Due.NONE);
        // Fifteen cuts (LENGTH 115) bring SPINE 53 to 60, 4 short of NEED; 5 short is NONE.
        least(Due.told("stick 130 300 62 20 0 3;bow 64 0;"), 200, 800, 15, 15, 0, 0, 0);
        least(Due.told("stick 130 300 62 20 0 3;bow 65 0;"), 200, 800, Due.NONE);
    }

    private static void leastByTunes() {
        AlikeArrows x = Due.told("stick 112 300 57 57 0 3;bow 50 0;");
        least(x, 200, 800, 3, 0, 3, 0, 0);
        x.tune(0, 7);
        least(x, 200, 800, 0, 0, 0, 0, 0);
        x.tune(0, 0);
        least(x, 200, 800, 7, 0, 7, 0, 0);
    }

    private static void leastWrong() {
        AlikeArrows x = Due.told("stick 112 300 50 50 0 3;bow 50 0;");
        DUE.is("a 199", x.least(0, 0, 199, 800, 0), Due.BAD);
        DUE.is("b 801", x.least(0, 0, 200, 801, 0), Due.BAD);
        DUE.is("a above b", x.least(0, 0, 301, 300, 0), Due.BAD);
        DUE.is("a and b alike", x.least(0, 0, 300, 300, 0), 0);
        DUE.is("what 5", x.least(0, 0, 200, 800, 5), Due.BAD);
        DUE.is("what -1", x.least(0, 0, 200, 800, -1), Due.BAD);
        DUE.is("what 5, NONE", x.least(0, 0, 200, 200, 5), Due.BAD);
        for (int wrong : WRONGS) {
            DUE.is("stick " + wrong, x.least(wrong, 0, 200, 800, 0), Due.BAD);
            DUE.is("bow " + wrong, x.least(0, wrong, 200, 800, 0), Due.BAD);
        }
        DUE.is("far below", x.least(0, 0, Integer.MIN_VALUE, 800, 0), Due.BAD);
        DUE.is("far above", x.least(0, 0, 200, Integer.MAX_VALUE, 0), Due.BAD);
    }
}
