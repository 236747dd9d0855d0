/** Promises 29 rate, 30 keep, 31 back, 33 trace. */
public final class KindsTest {
    private static final Due DUE = new Due("KindsTest");
    private static final int[] WRONGS = {-1, Integer.MIN_VALUE, Integer.MAX_VALUE};
    private static final String ALL = "stick 112 300 60 50 30 4;stick 100 250 45 40 10 2;bow 40 2;bow 60 0;archer left 2 5;";

    public static void main(String[] args) {
        rates();
        ratesNow();
        traces();
        rateWrong();
        keeps();
        keepsWholeShots();
        keepsNothingElse();
        imagesByThemselves();
        imageWrong();
        DUE.end();
    }

    private static void rates() {
        AlikeArrows x = Due.told(ALL);
        x.tune(3, -7);
        // SPINE 57, DROP 82 and 4; SPINE 49, DROP 65 and 2.
        int[][] want = {{57, 357, 57 - 86, 350, 2 * (57 - 86), 87}, {49, 299, 49 - 67, 292, 2 * (49 - 67), 59}};
        for (int i = 0; i < want.length; i++) {
            for (int kind = 0; kind <= 5; kind++) DUE.is("rate " + kind + " " + i, x.rate(kind, i), want[i][kind]);
        }
    }

    private static void ratesNow() {
        AlikeArrows x = Due.told(ALL);
        x.turn(0);
        DUE.is("turned: SPINE", x.rate(0, 0), 47);
        x.load(0);
        x.load(0);
        x.scrape(0);
        DUE.is("SPINE", x.rate(0, 0), 45);
        DUE.is("WEIGHT", x.rate(1, 0), 45 + 298);
        DUE.is("WIND 0", x.rate(3, 0), 45 + 298);
        DUE.is("TIP", x.rate(5, 0), 45 + 40);
        DUE.is("DROP", x.rate(2, 0), 45 - 84 - 4);
    }

    private static void traces() {
        int[] want = {1, 11, 101, 1011, 10101, 100001};
        for (int kind = 0; kind < want.length; kind++) {
            AlikeArrows x = Due.told(ALL);
            x.rate(kind, 0);
            DUE.is("trace of kind " + kind, x.trace(), want[kind]);
            x.rate(kind, 1);
            DUE.is("trace of kind " + kind + " twice", x.trace(), 2 * want[kind]);
        }
        AlikeArrows x = Due.told(ALL);
        for (int kind = 0; kind < want.length; kind++) x.rate(kind, 0);
        DUE.is("trace of all", x.trace(), 111226);
        x.keep(0);
        x.rate(5, 0);
        x.back(0);
        DUE.is("trace goes on behind back", x.trace(), 211227);
    }

    private static void rateWrong() {
        AlikeArrows x = Due.told(ALL);
        DUE.is("rate kind 6", x.rate(6, 0), Due.NO);
        DUE.is("rate stick 2", x.rate(0, 2), Due.NO);
        for (int wrong : WRONGS) {
            DUE.is("rate kind " + wrong, x.rate(wrong, 0), Due.NO);
            DUE.is("rate stick " + wrong, x.rate(0, wrong), Due.NO);
        }
        DUE.is("trace stays", x.trace(), 0);
        AlikeArrows y = Due.told("stick 112 300 60 50 30 4;");
        for (int kind = 0; kind <= 5; kind++) DUE.is("no bow " + kind, y.rate(kind, 0), Due.NO);
        DUE.is("trace stays, no bow", y.trace(), 0);
    }

    private static void keeps() {
        AlikeArrows x = Due.told(ALL);
        x.turn(1);
        x.shoot(0, 0, 0);
        x.shoot(1, 1, 0);
        int first = x.shot(0, 3), second = x.shot(1, 3);
        DUE.is("keep", x.keep(0), 2);
        int third = x.shoot(0, 1, 0);
        x.cut(0);
        x.scrape(0);
        x.load(0);
        x.turn(0);
        x.turn(1);
        x.wipe();
        x.shoot(1, 0, 0);
        DUE.is("back", x.back(0), 2);
        int[][] want = {{112, 300, 60, 50, 30, 4, 0}, {100, 250, 45, 40, 10, 2, 1}};
        for (int i = 0; i < want.length; i++) {
            for (int what = 0; what <= 6; what++) DUE.is("back: stick " + i + " " + what, x.stick(i, what), want[i][what]);
        }
        DUE.is("back: shots", x.count(3), 2);
        int[][] shots = {{0, 0, 0, first, 86}, {1, 1, 0, second, 45}};
        for (int k = 0; k < shots.length; k++) {
            for (int what = 0; what <= 4; what++) DUE.is("back: shot " + k + " " + what, x.shot(k, what), shots[k][what]);
        }
        DUE.is("back: lot", x.shoot(0, 1, 0), third);
        DUE.is("back once more", x.back(0), 2);
        DUE.is("lot once more", x.shoot(0, 1, 0), third);
        x.wipe();
        DUE.is("keep of an empty sheet", x.keep(0), 0);
        x.shoot(0, 0, 0);
        DUE.is("back to an empty sheet", x.back(0), 0);
        DUE.is("empty sheet", x.shot(0, 0), Due.NO);
    }

    private static void keepsWholeShots() {
        AlikeArrows x = Due.told(ALL + "archer right 3 0;");
        x.shoot(0, 1, 1);
        x.shoot(1, 0, 0);
        x.keep(1);
        int x0 = x.shot(0, 3), x1 = x.shot(1, 3);
        x.wipe();
        x.shoot(1, 0, 0);
        x.shoot(0, 1, 1);
        DUE.is("back", x.back(1), 2);
        int[][] shots = {{0, 1, 1, x0, 59}, {1, 0, 0, x1, 67}};
        for (int k = 0; k < shots.length; k++) {
            for (int what = 0; what <= 4; what++) DUE.is("whole shot " + k + " " + what, x.shot(k, what), shots[k][what]);
        }
    }

    private static void keepsNothingElse() {
        AlikeArrows x = Due.told(ALL);
        x.keep(1);
        x.tune(0, 9);
        x.tune(3, 9);
        x.type(65, 1);
        x.rate(0, 0);
        DUE.is("back", x.back(1), 0);
        DUE.is("CLEAR stays", x.tune(0, 9), 9);
        DUE.is("WIND stays", x.tune(3, 9), 9);
        DUE.is("text stays", x.count(4), 1);
        DUE.is("trace stays", x.trace(), 1);
        DUE.is("bows stay", x.bow(1, 0), 60);
        DUE.is("archers stay", x.archer(0, 0), -2);
    }

    private static void imagesByThemselves() {
        AlikeArrows x = Due.told(ALL);
        DUE.is("keep 0", x.keep(0), 0);
        x.cut(0);
        x.lot(20);
        x.shoot(0, 0, 0);
        x.lot(21);
        DUE.is("image 1 is not kept yet", x.back(1), Due.STATE);
        DUE.is("keep 1", x.keep(1), 1);
        x.cut(0);
        x.shoot(0, 0, 0);
        DUE.is("back 0", x.back(0), 0);
        DUE.is("LENGTH of image 0", x.stick(0, 0), 112);
        DUE.is("lot of image 0", x.lot(7), 1);
        DUE.is("back 1", x.back(1), 1);
        DUE.is("LENGTH of image 1", x.stick(0, 0), 111);
        DUE.is("lot of image 1", x.lot(7), 21);
        x.cut(0);
        DUE.is("keep 0 over the first", x.keep(0), 1);
        x.cut(0);
        DUE.is("back 0 again", x.back(0), 1);
        DUE.is("LENGTH of image 0 anew", x.stick(0, 0), 110);
        DUE.is("lot of image 0 anew", x.lot(1), 7);
    }

    private static void imageWrong() {
        AlikeArrows x = Due.told(ALL);
        DUE.is("keep 2", x.keep(2), Due.BAD);
        DUE.is("back 2", x.back(2), Due.BAD);
        DUE.is("back 0", x.back(0), Due.STATE);
        DUE.is("back 1", x.back(1), Due.STATE);
        for (int wrong : WRONGS) {
            DUE.is("keep " + wrong, x.keep(wrong), Due.BAD);
            DUE.is("back " + wrong, x.back(wrong), Due.BAD);
        }
        x.keep(0);
        x.shoot(0, 0, 0);
        DUE.is("keep 2 keeps nothing", x.keep(2), Due.BAD);
        DUE.is("back 1 changes nothing", x.back(1), Due.STATE);
        DUE.is("shots", x.count(3), 1);
        DUE.is("an object of nothing keeps", new AlikeArrows().keep(0), 0);
    }
}
