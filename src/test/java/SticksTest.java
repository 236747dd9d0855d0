/** Promises 5 stick, 6 bow, 7 archer, 8 tune. */
public final class SticksTest {
    private static final Due DUE = new Due("SticksTest");
    private static final int[] WRONGS = {-1, -2, Integer.MIN_VALUE, Integer.MAX_VALUE};

    public static void main(String[] args) {
        sticks();
        bows();
        archers();
        tunes();
        wrongTunes();
        DUE.end();
    }

    private static void sticks() {
        AlikeArrows x = Due.told("stick 81 201 22 23 24 5;stick 130 600 99 98 200 9;");
        int[][] want = {{81, 201, 22, 23, 24, 5, 0}, {130, 600, 99, 98, 200, 9, 0}};
        for (int i = 0; i < want.length; i++) {
            for (int what = 0; what <= 6; what++) DUE.is("stick " + i + " " + what, x.stick(i, what), want[i][what]);
        }
        x.turn(1);
        DUE.is("NOTCH of a turned one", x.stick(1, 6), 1);
        DUE.is("NOTCH of the other", x.stick(0, 6), 0);
        DUE.is("no such stick", x.stick(2, 0), Due.BAD);
        DUE.is("no such what", x.stick(0, 7), Due.BAD);
        for (int wrong : WRONGS) {
            DUE.is("stick " + wrong, x.stick(wrong, 0), Due.BAD);
            DUE.is("stick 0 by " + wrong, x.stick(0, wrong), Due.BAD);
        }
    }

    private static void bows() {
        AlikeArrows x = Due.told("bow 42 3;bow 70 9;bow 20 0;");
        int[][] want = {{42, 3, 48}, {70, 9, 88}, {20, 0, 20}};
        for (int b = 0; b < want.length; b++) {
            for (int what = 0; what <= 2; what++) DUE.is("bow " + b + " " + what, x.bow(b, what), want[b][what]);
        }
        DUE.is("no such bow", x.bow(3, 0), Due.BAD);
        DUE.is("no such what", x.bow(0, 3), Due.BAD);
        for (int wrong : WRONGS) {
            DUE.is("bow " + wrong, x.bow(wrong, 0), Due.BAD);
            DUE.is("bow 0 by " + wrong, x.bow(0, wrong), Due.BAD);
        }
        DUE.is("not told", Due.told("bow 42 3;").bow(1, 0), Due.BAD);
    }

    private static void archers() {
        AlikeArrows x = Due.told("archer left 30 20;archer right 29 1;archer left 0 0;");
        int[][] want = {{-30, 20}, {29, 1}, {0, 0}};
        for (int a = 0; a < want.length; a++) {
            for (int what = 0; what <= 1; what++) DUE.is("archer " + a + " " + what, x.archer(a, what), want[a][what]);
        }
        DUE.is("no such archer", x.archer(3, 0), Due.NO);
        DUE.is("no such what", x.archer(0, 2), Due.NO);
        for (int wrong : WRONGS) {
            DUE.is("archer " + wrong, x.archer(wrong, 0), Due.NO);
            DUE.is("archer 0 by " + wrong, x.archer(0, wrong), Due.NO);
        }
        DUE.is("not told", Due.told("archer left 30 20;").archer(1, 0), Due.NO);
    }

    private static void tunes() {
        AlikeArrows x = new AlikeArrows();
        int[] first = {4, 15, 10, 0}, least = {0, 0, 0, -9}, most = {20, 60, 30, 9};
        for (int what = 0; what <= 3; what++) {
            DUE.is("tune " + what, x.tune(what, least[what]), first[what]);
            DUE.is("tune from the least", x.tune(what, most[what]), least[what]);
            DUE.is("tune from the most", x.tune(what, 1), most[what]);
        }
        for (int what = 0; what <= 3; what++) DUE.is("tune stays " + what, x.tune(what, 2), 1);
    }

    private static void wrongTunes() {
        AlikeArrows x = new AlikeArrows();
        int[] first = {4, 15, 10, 0}, below = {-1, -1, -1, -10}, above = {21, 61, 31, 10};
        for (int what = 0; what <= 3; what++) {
            DUE.is("tune below " + what, x.tune(what, below[what]), Due.NO);
            DUE.is("tune above " + what, x.tune(what, above[what]), Due.NO);
            DUE.is("tune least " + what, x.tune(what, Integer.MIN_VALUE), Due.NO);
            DUE.is("tune most " + what, x.tune(what, Integer.MAX_VALUE), Due.NO);
            DUE.is("tune is as it was " + what, x.tune(what, 0), first[what]);
        }
        DUE.is("no such tune", x.tune(4, 0), Due.NO);
        for (int wrong : WRONGS) DUE.is("tune " + wrong, x.tune(wrong, 0), Due.NO);
    }
}
