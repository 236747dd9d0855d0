/** Promises 22 shoot, 23 shot, 24 wipe, 25 parted, 26 spread, 27 out, 28 lot. */
public final class ShotsTest {
    private static final Due DUE = new Due("ShotsTest");
    private static final int[] WRONGS = {-1, Integer.MIN_VALUE, Integer.MAX_VALUE};

    /** Sticks whose GOES are 0, 10, -10, 20 (a SLAPPED one) by a bow of NEED 50, and archers who do not wander. */
    private static final String STILL = "stick 112 300 50 50 0 0;stick 112 300 40 50 0 0;stick 112 300 60 50 0 0;"
        + "bow 50 0;bow 40 5;bow 46 2;archer left 0 0;archer left 3 0;archer right 3 0;";

    public static void main(String[] args) {
        shots();
        drawnByTheLot();
        fullSheet();
        shootWrong();
        wiped();
        lots();
        partedFirst();
        partedByFraction();
        spreads();
        outs();
        outByFraction();
        DUE.end();
    }

    private static void shots() {
        AlikeArrows x = Due.told(STILL);
        DUE.is("shoot 0", x.shoot(0, 0, 0), 0);
        DUE.is("shoot 1", x.shoot(1, 1, 1), 7);
        DUE.is("shoot 2", x.shoot(2, 2, 2), -7);
        x.tune(3, 9);
        DUE.is("shoot with wind", x.shoot(2, 0, 1), -10 + 18 - 3);
        x.cut(0);
        int[][] want = {{0, 0, 0, 0, 60}, {1, 1, 1, 7, 75}, {2, 2, 2, -7, 65}, {2, 0, 1, 5, 60}};
        for (int k = 0; k < want.length; k++) {
            for (int what = 0; what <= 4; what++) DUE.is("shot " + k + " " + what, x.shot(k, what), want[k][what]);
        }
        DUE.is("shot 4", x.shot(4, 0), Due.NO);
        DUE.is("shot what 5", x.shot(0, 5), Due.NO);
        for (int wrong : WRONGS) {
            DUE.is("shot " + wrong, x.shot(wrong, 0), Due.NO);
            DUE.is("shot what " + wrong, x.shot(0, wrong), Due.NO);
        }
    }

    private static void drawnByTheLot() {
        AlikeArrows x = Due.told("stick 112 300 50 50 0 0;bow 50 0;archer left 5 3;archer right 1 20;archer right 9 0;");
        // 1 times 1103515245 and 12345: upper 16 bits 16838, by 7 left over 3.
        DUE.is("first", x.shoot(0, 0, 0), -5 + 3 - 3);
        long lot = 1103527590L;
        for (int k = 0; k < 40; k++) {
            lot = (lot * 1103515245L + 12345L) & 0xffffffffL;
            int archer = k % 3;
            int wander = archer == 0 ? 3 : archer == 1 ? 20 : 0;
            int aim = archer == 0 ? -5 : archer == 1 ? 1 : 9;
            DUE.is("shot by the lot " + k, x.shoot(0, 0, archer), aim + (lot >> 16) % (2 * wander + 1) - wander);
        }
        DUE.is("lot", x.lot(-1), (int) lot);
        // -1 becomes -1103502900; its upper bits are 48697, a number from 0 on.
        DUE.is("upper bits from 0 on", x.shoot(0, 0, 1), 1 + 48697 % 41 - 20);
        DUE.is("lot went on", x.lot(0), -1103502900);
    }

    private static void fullSheet() {
        AlikeArrows x = Due.told(STILL);
        for (int k = 0; k < 60; k++) DUE.is("shot to " + k, x.shoot(1, 0, 0), 10);
        int lot = x.lot(5);
        DUE.is("the 61st", x.shoot(1, 0, 0), Due.NO);
        DUE.is("lot stays", x.lot(lot), 5);
        DUE.is("sheet stays", x.count(3), 60);
        DUE.is("the last", x.shot(59, 3), 10);
        DUE.is("no 61st", x.shot(60, 3), Due.NO);
        DUE.is("wipe", x.wipe(), 60);
        DUE.is("room again", x.shoot(1, 0, 0), 10);
    }

    private static void shootWrong() {
        AlikeArrows x = Due.told("stick 112 300 50 50 0 0;bow 50 0;archer left 0 5;");
        x.lot(99);
        DUE.is("shoot stick 1", x.shoot(1, 0, 0), Due.NO);
        DUE.is("shoot bow 1", x.shoot(0, 1, 0), Due.NO);
        DUE.is("shoot archer 1", x.shoot(0, 0, 1), Due.NO);
        for (int wrong : WRONGS) {
            DUE.is("shoot stick " + wrong, x.shoot(wrong, 0, 0), Due.NO);
            DUE.is("shoot bow " + wrong, x.shoot(0, wrong, 0), Due.NO);
            DUE.is("shoot archer " + wrong, x.shoot(0, 0, wrong), Due.NO);
        }
        DUE.is("lot stays", x.lot(1), 99);
        DUE.is("sheet stays", x.count(3), 0);
    }

    private static void wiped() {
        AlikeArrows x = Due.told(STILL);
        DUE.is("wipe nothing", x.wipe(), 0);
        x.shoot(0, 0, 0);
        x.shoot(1, 0, 0);
        DUE.is("wipe", x.wipe(), 2);
        DUE.is("no shots", x.count(3), 0);
        DUE.is("no shot", x.shot(0, 0), Due.NO);
        DUE.is("parted", x.parted(), Due.NONE);
        DUE.is("spread", x.spread(0), Due.NONE);
        DUE.is("wipe again", x.wipe(), 0);
    }

    private static void lots() {
        AlikeArrows x = new AlikeArrows();
        int before = 1;
        for (int v : new int[] {0, -1, Integer.MIN_VALUE, Integer.MAX_VALUE, 7}) {
            DUE.is("lot " + v, x.lot(v), before);
            before = v;
        }
    }

    private static void partedFirst() {
        AlikeArrows x = Due.told(STILL);
        DUE.is("no shots", x.parted(), Due.NONE);
        x.shoot(0, 0, 0);
        DUE.is("all are 0", x.parted(), 0);
        x.shoot(1, 0, 0);
        DUE.is("by stick", x.parted(), 0);
        x.wipe();
        // One stick and one bow, two archers: 3 and -3.
        x.shoot(0, 0, 1);
        x.shoot(0, 0, 2);
        DUE.is("by archer", x.parted(), 1);
        x.wipe();
        // Each archer has a stick of his own: the stick is first.
        x.shoot(1, 0, 1);
        x.shoot(2, 0, 2);
        DUE.is("by stick and archer", x.parted(), 0);
        AlikeArrows y = Due.told("stick 112 300 50 50 0 0;stick 112 300 50 50 0 0;bow 40 0;bow 60 0;archer left 0 0;archer left 0 0;");
        // GOES -10 with bow 0, 10 with bow 1.
        y.shoot(0, 0, 0);
        y.shoot(0, 1, 0);
        DUE.is("by bow", y.parted(), 2);
        y.wipe();
        y.shoot(0, 0, 0);
        y.shoot(0, 1, 1);
        DUE.is("archer ahead of bow", y.parted(), 1);
    }

    private static void partedByFraction() {
        AlikeArrows x = Due.told("stick 112 300 50 50 0 0;stick 112 300 50 50 0 0;stick 112 300 50 50 0 0;"
            + "bow 50 0;bow 50 0;bow 50 0;archer right 1 0;archer right 2 0;archer left 1 0;");
        // x 1, 2, 2: by sticks (1), (2, 2): 9, by archers the same; by bows (1, 2), (2): 8 and a half.
        x.shoot(0, 0, 0);
        x.shoot(1, 0, 1);
        x.shoot(1, 1, 1);
        DUE.is("9 against 8 and a half", x.parted(), 0);
        x.wipe();
        // By sticks (1, 2, 2): 25 by 3; by bows (1), (2, 2): 9; by archers the same, ahead of bows.
        x.shoot(2, 0, 0);
        x.shoot(2, 1, 1);
        x.shoot(2, 1, 1);
        DUE.is("25 by 3 against 9", x.parted(), 1);
        x.wipe();
        // Archer 0 alone, x is 1 each: by sticks, archers, bows all the same, whatever the counts.
        for (int k = 0; k < 7; k++) x.shoot(k % 3, k % 2, 0);
        DUE.is("7 each way, in thirds and halves", x.parted(), 0);
        x.wipe();
        // By sticks (1, 2), (1, 2, 2): 12.8; by bows (1, 2, 1), (2, 2): 13.3; by archers (1, 1), (2, 2, 2): 14.
        x.shoot(0, 0, 0);
        x.shoot(0, 0, 1);
        x.shoot(1, 0, 0);
        x.shoot(1, 1, 1);
        x.shoot(1, 1, 1);
        DUE.is("14 is the greatest", x.parted(), 1);
        x.wipe();
        partedBehindThePoint();
    }

    /** What is cut would be the same for two of the three, so only the fractions tell which is the greatest. */
    private static void partedBehindThePoint() {
        // 18; 9; 18 and a third.
        partedOf(2, new int[] {-3, -3, 2, -2, 3}, "22221", "10111", "00012");
        // 17 and a third; 17 and a half; 16.
        partedOf(1, new int[] {-1, -2, -3, -2, 0}, "00102", "01210", "20221");
        // 14; 15 and a third; 15 and a half.
        partedOf(2, new int[] {2, 0, 1, 2, 3}, "21212", "22120", "10201");
        // 9 (cut one by one: 8); 9; 9 and a third.
        partedOf(2, new int[] {-1, 0, -2, -3, 0}, "12021", "20222", "02221");
        // A half; 1; a half.
        partedOf(1, new int[] {1, 0}, "00", "01", "22");
    }

    /** Shots of the given x: the wind alone moves a shaft of 600 grains that is CLEAN, by one for each WIND. */
    private static void partedOf(int want, int[] xs, String sticks, String archers, String bows) {
        AlikeArrows x = Due.told("stick 112 600 50 50 0 0;".repeat(3) + "bow 50 0;".repeat(3) + "archer left 0 0;".repeat(3));
        for (int k = 0; k < xs.length; k++) {
            x.tune(3, xs[k]);
            int got = x.shoot(sticks.charAt(k) - '0', bows.charAt(k) - '0', archers.charAt(k) - '0');
            DUE.is("shot " + k + " for parted", got, xs[k]);
        }
        DUE.is("parted of " + sticks + " " + archers + " " + bows, x.parted(), want);
    }

    private static void spreads() {
        AlikeArrows x = Due.told(STILL);
        DUE.is("no shots", x.spread(0), Due.NONE);
        x.shoot(1, 0, 0);
        DUE.is("one shot", x.spread(1), 0);
        DUE.is("none of its own", x.spread(0), Due.NONE);
        x.shoot(1, 0, 1);
        DUE.is("10, 7", x.spread(1), 3);
        x.shoot(1, 0, 2);
        DUE.is("10, 7, 13", x.spread(1), 6);
        x.shoot(2, 0, 2);
        x.shoot(2, 0, 1);
        DUE.is("-7, -13", x.spread(2), 6);
        DUE.is("of others nothing", x.spread(1), 6);
        DUE.is("spread 3", x.spread(3), Due.BAD);
        for (int wrong : WRONGS) DUE.is("spread " + wrong, x.spread(wrong), Due.BAD);
    }

    private static void outs() {
        AlikeArrows x = Due.told(STILL);
        DUE.is("no shots at all", x.out(0, 0), Due.STATE);
        for (int k = 0; k < 2; k++) x.shoot(1, 0, 0);
        DUE.is("others have none", x.out(1, 0), Due.STATE);
        DUE.is("it has none", x.out(0, 0), Due.STATE);
        x.shoot(0, 0, 0);
        DUE.is("two shots only", x.out(1, 0), 0);
        DUE.is("one shot only", x.out(0, 0), 0);
        x.shoot(1, 0, 0);
        DUE.is("10 is more than 9", x.out(1, 9), 1);
        DUE.is("10 is not more than 10", x.out(1, 10), 0);
        DUE.is("out r 99", x.out(1, 99), 0);
        DUE.is("out r 100", x.out(1, 100), Due.BAD);
        DUE.is("out stick 3", x.out(3, 0), Due.BAD);
        DUE.is("BAD ahead of STATE", x.out(2, 100), Due.BAD);
        for (int wrong : WRONGS) {
            DUE.is("out stick " + wrong, x.out(wrong, 0), Due.BAD);
            DUE.is("out r " + wrong, x.out(1, wrong), Due.BAD);
        }
        for (int k = 0; k < 3; k++) x.shoot(2, 0, 0);
        // 30 by 3 against -30 by 4: 17.5 off.
        DUE.is("17.5 is more than 17", x.out(1, 17), 1);
        DUE.is("17.5 is not more than 18", x.out(1, 18), 0);
        // -10 against 30 by 4.
        DUE.is("-17.5 the other way", x.out(2, 17), 1);
        DUE.is("-17.5 is not more than 18", x.out(2, 18), 0);
        DUE.is("one shot is not three", x.out(0, 0), 0);
    }

    private static void outByFraction() {
        AlikeArrows x = Due.told("stick 112 300 50 50 0 0;stick 112 300 50 50 0 0;bow 50 0;"
            + "archer right 1 0;archer right 2 0;archer left 1 0;");
        // Means 4 by 3 and 1: a third off.
        x.shoot(0, 0, 0);
        x.shoot(0, 0, 0);
        x.shoot(0, 0, 1);
        x.shoot(1, 0, 0);
        DUE.is("a third is more than 0", x.out(0, 0), 1);
        DUE.is("a third is not more than 1", x.out(0, 1), 0);
        x.shoot(1, 0, 2);
        // 4 by 3 and 0.
        DUE.is("4 by 3 is more than 1", x.out(0, 1), 1);
        DUE.is("4 by 3 is not more than 2", x.out(0, 2), 0);
        AlikeArrows y = Due.told("stick 112 300 50 50 0 0;stick 112 300 50 50 0 0;bow 50 0;archer right 1 0;");
        for (int k = 0; k < 6; k++) y.shoot(k % 2, 0, 0);
        DUE.is("the same mean is not more than 0 off", y.out(0, 0), 0);
    }
}
