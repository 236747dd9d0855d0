import java.math.BigInteger;

/** One test for each sentence on shots and THE SHEET that names an edge: promises 22 to 28. */
public final class ShotEdgesTest {
    private static final Due DUE = new Due("ShotEdgesTest");
    private static final String SAME = "stick 112 600 50 50 0 0;";
    private static final BigInteger TIMES = BigInteger.valueOf(1103515245), AND = BigInteger.valueOf(12345);

    public static void main(String[] args) {
        lotIsOneAtFirst();
        lotGoesOnWrapped();
        drawnFromZeroOn();
        wanderNone();
        wanderOne();
        wanderMost();
        shotOfX();
        shotFarthest();
        shotOfY();
        sheetOfSixty();
        shootRefused();
        shotRefused();
        shotStays();
        wiped();
        partedNone();
        partedFirstOfSeveral();
        partedByEach();
        partedSquared();
        partedByHowMany();
        partedFraction();
        partedOfManyCounts();
        spreadEnds();
        spreadNone();
        spreadRefused();
        outMoreThan();
        outEitherWay();
        outFraction();
        outThreeShots();
        outAllOthers();
        outState();
        outStateAheadOfThree();
        outRefused();
        lots();
        DUE.end();
    }

    /** Three sticks that go 0, three bows, three archers who aim at 0 and do not wander. */
    private static AlikeArrows still() {
        return Due.told(SAME.repeat(3) + "bow 50 0;".repeat(3) + "archer left 0 0;".repeat(3));
    }

    /** A shot of a stick of 600 grains that is CLEAN comes at what WIND is. */
    private static void shootAt(AlikeArrows x, int at, int stick, int bow, int archer) {
        x.tune(3, at);
        DUE.is("shoot at " + at, x.shoot(stick, bow, archer), at);
    }

    private static int next(int lot) {
        return BigInteger.valueOf(lot).multiply(TIMES).add(AND).intValue();
    }

    private static int upper(int lot) {
        return (int) ((next(lot) & 0xffffffffL) / 65536);
    }

    private static AlikeArrows wandering(int wander) {
        return Due.told(SAME + "bow 50 0;archer right 0 " + wander + ";");
    }

    private static void lotIsOneAtFirst() {
        DUE.sentence("1: THE LOT is 1");
        AlikeArrows x = wandering(20);
        // 1103515245 and 12345: 16838 by 41 is left over 28.
        DUE.is("the first shot", x.shoot(0, 0, 0), 28 - 20);
        DUE.is("lot behind it", x.lot(0), 1103527590);
    }

    private static void lotGoesOnWrapped() {
        DUE.sentence("A SHOT: THE LOT (it goes on, times 1103515245 and 12345, wrapped)");
        for (int lot : new int[] {0, 1, -1, 2, 3, 65535, 65536, Integer.MAX_VALUE, Integer.MIN_VALUE, 1103527590}) {
            AlikeArrows x = wandering(0);
            x.lot(lot);
            x.shoot(0, 0, 0);
            DUE.is("lot behind " + lot, x.lot(0), next(lot));
        }
        AlikeArrows x = wandering(0);
        int lot = 1;
        for (int k = 0; k < 60; k++) {
            x.shoot(0, 0, 0);
            lot = next(lot);
        }
        DUE.is("lot behind sixty shots", x.lot(0), lot);
    }

    private static void drawnFromZeroOn() {
        DUE.sentence("DRAWN: its upper 16 bits, as a number from 0 on");
        AlikeArrows x = wandering(20);
        x.lot(-1);
        // -1103502900: 48697, by 41 left over 30.
        DUE.is("behind -1", x.shoot(0, 0, 0), 30 - 20);
        x.lot(0);
        // 12345: 0.
        DUE.is("behind 0", x.shoot(0, 0, 0), -20);
        for (int lot = -5; lot <= 5; lot++) {
            x.lot(lot);
            DUE.is("behind " + lot, x.shoot(0, 0, 0), upper(lot) % 41 - 20);
        }
    }

    private static void wanderNone() {
        DUE.sentence("left over by (2 WANDER and 1): WANDER 0");
        AlikeArrows x = wandering(0);
        for (int k = 0; k < 20; k++) DUE.is("shot " + k, x.shoot(0, 0, 0), 0);
    }

    private static void wanderOne() {
        DUE.sentence("left over by (2 WANDER and 1): WANDER 1");
        ends(1);
    }

    private static void wanderMost() {
        DUE.sentence("left over by (2 WANDER and 1): WANDER 20");
        ends(20);
    }

    /** Lots by which the least, the greatest and the middle are DRAWN. */
    private static void ends(int wander) {
        int over = 2 * wander + 1;
        for (int left : new int[] {0, wander, over - 1}) {
            int lot = 7;
            while (upper(lot) % over != left) lot++;
            AlikeArrows x = wandering(wander);
            x.lot(lot);
            DUE.is("shot behind " + lot, x.shoot(0, 0, 0), left - wander);
        }
    }

    private static void shotOfX() {
        DUE.sentence("A SHOT: x: GOES and AIM and DRAWN less WANDER");
        AlikeArrows x = Due.told("stick 112 300 60 50 0 5;bow 50 0;archer left 30 20;archer right 30 20;");
        x.lot(0);
        DUE.is("the left one", x.shoot(0, 0, 0), -5 - 30 - 20);
        x.lot(0);
        DUE.is("the right one", x.shoot(0, 0, 1), -5 + 30 - 20);
    }

    private static void shotFarthest() {
        DUE.sentence("A SHOT: the farthest to the left, to the right");
        AlikeArrows x = Due.told("stick 80 200 99 99 0 0;bow 20 0;archer left 30 20;");
        x.tune(2, 30);
        x.tune(3, -9);
        x.lot(0);
        DUE.is("left", x.shoot(0, 0, 0), -735 - 30 - 20);
        DUE.is("left, told", x.shot(0, 3), -785);
        AlikeArrows y = Due.told("stick 130 200 20 20 200 0;bow 70 9;archer right 30 20;");
        y.tune(2, 30);
        y.tune(3, 9);
        int lot = 0;
        while (upper(lot) % 41 != 40) lot++;
        y.lot(lot);
        DUE.is("right", y.shoot(0, 0, 0), 559 + 30 + 20);
    }

    private static void shotOfY() {
        DUE.sentence("A SHOT: y: DROP");
        AlikeArrows x = Due.told("stick 112 600 50 20 200 9;stick 112 200 50 20 0 0;bow 20 9;bow 70 9;archer left 0 0;");
        x.shoot(0, 0, 0);
        x.shoot(1, 1, 0);
        DUE.is("the most", x.shot(0, 4), 409);
        DUE.is("the least", x.shot(1, 4), 28);
    }

    private static void sheetOfSixty() {
        DUE.sentence("THE SHEET (60 at most). NO: THE SHEET is full");
        AlikeArrows x = Due.told(SAME + "bow 50 0;archer left 0 0;archer right 1 0;");
        for (int k = 0; k < 59; k++) DUE.is("shot " + k, x.shoot(0, 0, 0), 0);
        DUE.is("the sixtieth", x.shoot(0, 0, 1), 1);
        int lot = x.lot(5);
        x.lot(lot);
        for (int k = 0; k < 3; k++) DUE.is("one more", x.shoot(0, 0, 1), Due.NO);
        DUE.is("lot did not go on", x.lot(lot), lot);
        DUE.is("count", x.count(3), 60);
        DUE.is("the sixtieth, told", x.shot(59, 3), 1);
        DUE.is("no other", x.shot(60, 3), Due.NO);
        DUE.is("wipe", x.wipe(), 60);
        DUE.is("room again", x.shoot(0, 0, 1), 1);
        DUE.is("count again", x.count(3), 1);
    }

    private static void shootRefused() {
        DUE.sentence("22: shoot: NO: BAD");
        AlikeArrows x = Due.told("stick 112 300 50 50 0 0;stick 112 300 60 50 0 0;bow 50 0;bow 40 0;archer left 1 0;archer right 2 0;");
        DUE.range("stick", i -> x.shoot(i, 0, 0), 0, -1, 1, -11, Due.NO);
        DUE.range("bow", b -> x.shoot(0, b, 0), 0, -1, 1, -11, Due.NO);
        DUE.range("archer", a -> x.shoot(0, 0, a), 0, -1, 1, 2, Due.NO);
        DUE.is("count", x.count(3), 6);
        DUE.is("no archers", Due.told("stick 112 300 50 50 0 0;bow 50 0;").shoot(0, 0, 0), Due.NO);
        DUE.is("no bows", Due.told("stick 112 300 50 50 0 0;archer left 0 0;").shoot(0, 0, 0), Due.NO);
        DUE.is("no sticks", Due.told("bow 50 0;archer left 0 0;").shoot(0, 0, 0), Due.NO);
    }

    private static void shotRefused() {
        DUE.sentence("23: shot: 0 stick, 1 bow, 2 archer, 3 x, 4 y. NO: BAD");
        AlikeArrows x = still();
        DUE.is("no shots", x.shot(0, 0), Due.NO);
        shootAt(x, 3, 0, 1, 2);
        shootAt(x, -5, 2, 0, 1);
        DUE.range("what", what -> x.shot(0, what), 0, 0, 4, 120, Due.NO);
        DUE.range("what", what -> x.shot(1, what), 0, 2, 4, 120, Due.NO);
        DUE.range("shot", k -> x.shot(k, 3), 0, 3, 1, -5, Due.NO);
        DUE.is("bow", x.shot(0, 1), 1);
        DUE.is("archer", x.shot(0, 2), 2);
    }

    private static void shotStays() {
        DUE.sentence("23: of a shot as it was, whatever is done to the stick then");
        AlikeArrows x = Due.told("stick 112 300 60 40 0 0;bow 50 0;archer left 0 0;");
        x.shoot(0, 0, 0);
        x.turn(0);
        x.load(0);
        x.cut(0);
        x.tune(3, 9);
        DUE.is("x", x.shot(0, 3), -10);
        DUE.is("y", x.shot(0, 4), 60);
    }

    private static void wiped() {
        DUE.sentence("24: THE SHEET is empty: how many there were");
        AlikeArrows x = still();
        DUE.is("none", x.wipe(), 0);
        x.shoot(0, 0, 0);
        DUE.is("one", x.wipe(), 1);
        for (int k = 0; k < 60; k++) x.shoot(0, 0, 0);
        DUE.is("all", x.wipe(), 60);
        DUE.is("none again", x.wipe(), 0);
        DUE.is("no shot", x.shot(0, 0), Due.NO);
        DUE.is("count", x.count(3), 0);
    }

    private static void partedNone() {
        DUE.sentence("PARTED: NONE: no shots");
        DUE.is("new", new AlikeArrows().parted(), Due.NONE);
        AlikeArrows x = still();
        DUE.is("told", x.parted(), Due.NONE);
        x.shoot(0, 0, 0);
        DUE.is("one shot", x.parted(), 0);
        x.wipe();
        DUE.is("wiped", x.parted(), Due.NONE);
    }

    private static void parted(int want, int[] at, String sticks, String archers, String bows) {
        AlikeArrows x = still();
        for (int k = 0; k < at.length; k++) shootAt(x, at[k], sticks.charAt(k) - '0', bows.charAt(k) - '0', archers.charAt(k) - '0');
        DUE.is("parted by " + sticks + " " + archers + " " + bows, x.parted(), want);
    }

    private static void partedFirstOfSeveral() {
        DUE.sentence("PARTED by what (0 stick, 1 archer, 2 bow): of several the first");
        parted(0, new int[] {0, 0}, "00", "01", "01");
        parted(0, new int[] {3}, "2", "1", "0");
        parted(0, new int[] {3, -3}, "01", "01", "01");
        parted(0, new int[] {3, -3}, "01", "01", "00");
        parted(0, new int[] {3, -3}, "01", "00", "01");
        parted(1, new int[] {3, -3}, "00", "01", "01");
        parted(1, new int[] {3, -3}, "00", "01", "00");
        parted(2, new int[] {3, -3}, "00", "00", "01");
    }

    private static void partedByEach() {
        DUE.sentence("PARTED: for each one of these that has shots");
        // Those between have none; the last one's 9 is more than 9 by 2.
        parted(0, new int[] {3, 0}, "20", "11", "22");
        parted(1, new int[] {3, 0}, "11", "20", "22");
        parted(2, new int[] {3, 0}, "11", "22", "20");
        // The same of the twelfth stick.
        AlikeArrows x = Due.told(SAME.repeat(12) + "bow 50 0;archer left 0 0;archer left 0 0;");
        shootAt(x, 3, 11, 0, 0);
        shootAt(x, 0, 0, 0, 0);
        DUE.is("the twelfth, too", x.parted(), 0);
    }

    private static void partedSquared() {
        DUE.sentence("PARTED: x of all its shots added, squared");
        // Added first: 1 and -1 are nothing, 2 and 2 are 16 by 2.
        parted(1, new int[] {2, -2, 2, -2}, "0011", "0101", "0000");
        // Below 0 it is as much: 9 and 0, 9 by 2.
        parted(1, new int[] {-3, 0}, "00", "01", "00");
        parted(2, new int[] {-3, -3, 0}, "000", "000", "001");
    }

    private static void partedByHowMany() {
        DUE.sentence("PARTED: by how many these are");
        // By sticks 36 by 3 and 0: 12; by archers 16 by 2 and 4 by 2: 10; by bows 4 and 16 by 3: 9 and a third.
        parted(0, new int[] {2, 2, 2, 0}, "0001", "0011", "0111");
        // By sticks 9 (3 alone) and 0: 9; by archers 9 by 2.
        parted(0, new int[] {3, 0}, "01", "00", "00");
        parted(1, new int[] {3, 0, 0}, "000", "011", "001");
    }

    private static void partedFraction() {
        DUE.sentence("PARTED: (a fraction)");
        // 8 and a half, 9, 9 and a third; what is cut is 8, 9, 9.
        parted(2, new int[] {-1, 0, -2, -3, 0}, "12021", "20222", "02221");
        // 17 and a third; 17 and a half; 16.
        parted(1, new int[] {-1, -2, -3, -2, 0}, "00102", "01210", "20221");
        // 1 by 2 against 1 by 3.
        parted(0, new int[] {1, 0, 0}, "001", "000", "000");
        parted(1, new int[] {1, 0, 0}, "000", "001", "000");
        parted(2, new int[] {1, 0, 0}, "000", "000", "001");
    }

    private static void partedOfManyCounts() {
        DUE.sentence("PARTED: all these added (counts without a common divisor, the farthest x)");
        // All x are the same, so all three are, to the last part.
        DUE.is("all the same", farShots(-9, 0, 0, 0), 0);
        // The last one alone is up to 27 less far: told best by what it has alone.
        for (int wind = -8; wind <= 0; wind++) {
            DUE.is("the last one's stick, WIND " + wind, farShots(wind, 1, 0, 0), 0);
            DUE.is("the last one's archer, WIND " + wind, farShots(wind, 0, 1, 0), 1);
            DUE.is("the last one's bow, WIND " + wind, farShots(wind, 0, 0, 1), 2);
        }
    }

    /** PARTED of 60 shots by sticks of 3, 4, 5, 7, 11, 13 and 17 (or 16, and one more of another); the last by its own wind. */
    private static int farShots(int wind, int stick, int archer, int bow) {
        AlikeArrows x = Due.told("stick 80 200 99 99 0 0;".repeat(8) + "bow 20 0;bow 20 0;archer left 30 0;archer left 30 0;");
        x.tune(2, 30);
        x.tune(3, -9);
        int[] counts = {3, 4, 5, 7, 11, 13, 16};
        for (int i = 0; i < counts.length; i++) {
            for (int n = 0; n < counts[i]; n++) DUE.is("a far shot", x.shoot(i, 0, 0), -708 - 27 - 30);
        }
        x.tune(3, wind);
        DUE.is("the last shot", x.shoot(6 + stick, bow, archer), -708 + 3 * wind - 30);
        DUE.is("sixty shots", x.count(3), 60);
        return x.parted();
    }

    private static void spreadEnds() {
        DUE.sentence("SPREAD: the greatest less the least x of its shots");
        AlikeArrows x = still();
        shootAt(x, -4, 0, 0, 0);
        DUE.is("one shot", x.spread(0), 0);
        shootAt(x, -9, 0, 1, 1);
        DUE.is("-9 .. -4", x.spread(0), 5);
        shootAt(x, 9, 0, 2, 2);
        DUE.is("-9 .. 9", x.spread(0), 18);
        shootAt(x, 7, 1, 0, 0);
        shootAt(x, 8, 1, 0, 0);
        DUE.is("of its shots alone", x.spread(0), 18);
        DUE.is("above 0 alone", x.spread(1), 1);
        shootAt(x, 7, 1, 0, 0);
        DUE.is("the same again", x.spread(1), 1);
    }

    private static void spreadNone() {
        DUE.sentence("26: spread: NONE: it has no shots");
        AlikeArrows x = still();
        DUE.is("no shots at all", x.spread(0), Due.NONE);
        x.shoot(1, 0, 0);
        DUE.is("another one's", x.spread(0), Due.NONE);
        DUE.is("its own", x.spread(1), 0);
        DUE.is("the last stick", x.spread(2), Due.NONE);
    }

    private static void spreadRefused() {
        DUE.sentence("26: spread: BAD");
        AlikeArrows x = still();
        for (int k = 0; k < 3; k++) x.shoot(k, 0, 0);
        DUE.range("spread", i -> x.spread(i), 0, 0, 2, 0, Due.BAD);
        DUE.is("no sticks", new AlikeArrows().spread(0), Due.BAD);
        DUE.is("BAD ahead of NONE", still().spread(3), Due.BAD);
    }

    /** Three shots of stick 0 at one place, two of stick 1 at another. */
    private static AlikeArrows apart(int at, int others) {
        AlikeArrows x = still();
        for (int k = 0; k < 3; k++) shootAt(x, at, 0, 0, 0);
        for (int k = 0; k < 2; k++) shootAt(x, others, 1, 0, 0);
        return x;
    }

    private static void outMoreThan() {
        DUE.sentence("OUT by r: its mean x is more than r off the mean x of all other shots (r 0 .. 99)");
        DUE.is("0 off by 0", apart(3, 3).out(0, 0), 0);
        DUE.is("1 off by 0", apart(3, 2).out(0, 0), 1);
        DUE.is("1 off by 1", apart(3, 2).out(0, 1), 0);
        DUE.is("18 off by 17", apart(9, -9).out(0, 17), 1);
        DUE.is("18 off by 18", apart(9, -9).out(0, 18), 0);
        DUE.is("18 off by 99", apart(9, -9).out(0, 99), 0);
        // By the weaker bow OFF is 50: SLAPPED.
        AlikeArrows x = Due.told("stick 112 600 70 20 0 0;stick 112 600 50 20 0 0;bow 50 0;bow 20 0;archer left 0 0;");
        for (int k = 0; k < 3; k++) DUE.is("by the weaker bow", x.shoot(0, 1, 0), -100);
        x.shoot(1, 0, 0);
        DUE.is("100 off by 99", x.out(0, 99), 1);
        DUE.is("100 off by 98", x.out(0, 98), 1);
        x.wipe();
        for (int k = 0; k < 3; k++) x.shoot(0, 1, 0);
        x.tune(3, -1);
        x.shoot(1, 0, 0);
        DUE.is("99 off by 99", x.out(0, 99), 0);
        DUE.is("99 off by 98", x.out(0, 98), 1);
    }

    private static void outEitherWay() {
        DUE.sentence("OUT: off either way");
        for (int[] at : new int[][] {{5, 1}, {1, 5}, {-5, -1}, {-1, -5}, {2, -2}, {-2, 2}}) {
            DUE.is(at[0] + " and " + at[1] + " by 3", apart(at[0], at[1]).out(0, 3), 1);
            DUE.is(at[0] + " and " + at[1] + " by 4", apart(at[0], at[1]).out(0, 4), 0);
        }
    }

    private static void outFraction() {
        DUE.sentence("OUT: its mean x (a fraction)");
        AlikeArrows x = still();
        for (int at : new int[] {1, 1, 2}) shootAt(x, at, 0, 0, 0);
        shootAt(x, 1, 1, 0, 0);
        // 4 by 3 and 1.
        DUE.is("a third is more than 0", x.out(0, 0), 1);
        DUE.is("a third is not more than 1", x.out(0, 1), 0);
        shootAt(x, 0, 1, 0, 0);
        // 4 by 3 and 1 by 2: 5 by 6.
        DUE.is("5 by 6 is not more than 1", x.out(0, 1), 0);
        shootAt(x, 0, 1, 0, 0);
        // 4 by 3 and 1 by 3.
        DUE.is("1 is not more than 1", x.out(0, 1), 0);
        shootAt(x, 0, 1, 0, 0);
        // 4 by 3 and 1 by 4: 13 by 12.
        DUE.is("13 by 12 is more than 1", x.out(0, 1), 1);
        DUE.is("13 by 12 is not more than 2", x.out(0, 2), 0);
    }

    private static void outThreeShots() {
        DUE.sentence("OUT: and it has three shots at least");
        AlikeArrows x = still();
        shootAt(x, 0, 1, 0, 0);
        int[] want = {0, 0, 1, 1};
        for (int k = 0; k < want.length; k++) {
            shootAt(x, 9, 0, 0, 0);
            DUE.is((k + 1) + " shots", x.out(0, 0), want[k]);
        }
        DUE.is("the others need not", x.out(0, 8), 1);
        DUE.is("one shot of the other", x.out(1, 0), 0);
    }

    private static void outAllOthers() {
        DUE.sentence("OUT: the mean x of all other shots, whoever's");
        AlikeArrows x = still();
        for (int k = 0; k < 3; k++) shootAt(x, 6, 0, 0, 0);
        shootAt(x, 0, 1, 0, 0);
        // The mean of 0, 3, 3 is 2, not that of 0 and 3.
        shootAt(x, 3, 2, 1, 1);
        shootAt(x, 3, 2, 2, 2);
        DUE.is("4 off by 3", x.out(0, 3), 1);
        DUE.is("4 off by 4", x.out(0, 4), 0);
    }

    private static void outState() {
        DUE.sentence("27: out: STATE: it or all others have none");
        AlikeArrows x = still();
        DUE.is("no shots at all", x.out(0, 0), Due.STATE);
        for (int k = 0; k < 3; k++) shootAt(x, 5, 0, 0, 0);
        DUE.is("all others have none", x.out(0, 0), Due.STATE);
        DUE.is("it has none", x.out(1, 0), Due.STATE);
        shootAt(x, 5, 2, 0, 0);
        DUE.is("another has one", x.out(0, 0), 0);
        DUE.is("it has none still", x.out(1, 0), Due.STATE);
        x.wipe();
        DUE.is("wiped", x.out(0, 0), Due.STATE);
    }

    private static void outStateAheadOfThree() {
        DUE.sentence("27: out: STATE, also if it has fewer than three shots");
        AlikeArrows x = still();
        x.shoot(0, 0, 0);
        DUE.is("one shot, no others", x.out(0, 0), Due.STATE);
        x.shoot(0, 0, 0);
        DUE.is("two shots, no others", x.out(0, 0), Due.STATE);
    }

    private static void outRefused() {
        DUE.sentence("27: out (r 0 .. 99): BAD; STATE");
        AlikeArrows x = apart(9, 0);
        DUE.range("r", r -> x.out(0, r), 0, 1, 99, 0, Due.BAD);
        DUE.range("stick", i -> x.out(i, 0), 0, 1, 2, Due.STATE, Due.BAD);
        DUE.is("BAD ahead of STATE, r", still().out(0, 100), Due.BAD);
        DUE.is("BAD ahead of STATE, stick", still().out(3, 0), Due.BAD);
        DUE.is("no sticks", new AlikeArrows().out(0, 0), Due.BAD);
    }

    private static void lots() {
        DUE.sentence("28: THE LOT becomes v: what it was (any v)");
        AlikeArrows x = new AlikeArrows();
        int[] all = {0, -1, Integer.MIN_VALUE, Integer.MAX_VALUE, Due.NO, Due.BAD, 1};
        int before = 1;
        for (int v : all) {
            DUE.is("lot " + v, x.lot(v), before);
            before = v;
        }
    }
}
