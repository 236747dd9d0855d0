/** Promises 1 (a new object), 2 type, 3 clear, 4 arrows, 32 count. */
public final class TextTest {
    private static final Due DUE = new Due("TextTest");
    private static final String STICK = "stick 112 300 50 46 0 3;";

    public static void main(String[] args) {
        newObject();
        typing();
        fullText();
        clearing();
        bytesInOrder();
        goodTexts();
        faultsOfPlace();
        faultsOfNumbers();
        faultsOfWords();
        faultsOfEnd();
        faultsOfMany();
        faultLeavesAll();
        readAnew();
        counting();
        DUE.end();
    }

    private static void newObject() {
        AlikeArrows x = new AlikeArrows();
        for (int what = 0; what <= 4; what++) DUE.is("new: count " + what, x.count(what), 0);
        DUE.is("new: stick", x.stick(0, 0), Due.BAD);
        DUE.is("new: bow", x.bow(0, 0), Due.BAD);
        DUE.is("new: archer", x.archer(0, 0), Due.NO);
        DUE.is("new: shot", x.shot(0, 0), Due.NO);
        DUE.is("new: trace", x.trace(), 0);
        DUE.is("new: image 0", x.back(0), Due.STATE);
        DUE.is("new: image 1", x.back(1), Due.STATE);
        DUE.is("new: parted", x.parted(), Due.NONE);
        DUE.is("new: CLEAR", x.tune(0, 4), 4);
        DUE.is("new: SLAP", x.tune(1, 15), 15);
        DUE.is("new: SIDE", x.tune(2, 10), 10);
        DUE.is("new: WIND", x.tune(3, 0), 0);
        DUE.is("new: lot", x.lot(1), 1);
        DUE.is("BAD", AlikeArrows.BAD, -1);
        DUE.is("STATE", AlikeArrows.STATE, -2);
        DUE.is("FULL", AlikeArrows.FULL, -3);
        DUE.is("NONE", AlikeArrows.NONE, -9);
        DUE.is("NO", AlikeArrows.NO, -1000000);
    }

    private static void typing() {
        AlikeArrows x = new AlikeArrows();
        DUE.is("type none", x.type(65, 0), Due.BAD);
        DUE.is("type 9", x.type(65, 9), Due.BAD);
        DUE.is("type below 0", x.type(65, -1), Due.BAD);
        DUE.is("type least", x.type(65, Integer.MIN_VALUE), Due.BAD);
        DUE.is("type most", x.type(65, Integer.MAX_VALUE), Due.BAD);
        DUE.is("nothing typed", x.count(4), 0);
        DUE.is("type 1", x.type(65, 1), 1);
        DUE.is("type 3", x.type(65, 3), 4);
        DUE.is("type 8", x.type(-1L, 8), 12);
    }

    private static void fullText() {
        AlikeArrows x = new AlikeArrows();
        for (int k = 1; k <= 49; k++) DUE.is("type to " + 8 * k, x.type(0x2020202020202020L, 8), 8 * k);
        DUE.is("type to 399", x.type(0x20202020202020L, 7), 399);
        DUE.is("type two beyond", x.type(0x2020L, 2), Due.FULL);
        DUE.is("type eight beyond", x.type(0x2020L, 8), Due.FULL);
        DUE.is("full text stays", x.count(4), 399);
        DUE.is("type to 400", x.type(0x20, 1), 400);
        DUE.is("type beyond 400", x.type(0x20, 1), Due.FULL);
        DUE.is("BAD ahead of FULL", x.type(0x20, 9), Due.BAD);
        DUE.is("400 blanks", x.arrows(), 0);
        DUE.is("empty then", x.count(4), 0);
    }

    private static void clearing() {
        AlikeArrows x = new AlikeArrows();
        DUE.is("clear nothing", x.clear(), 0);
        Due.typed(x, "stick 1");
        DUE.is("clear", x.clear(), 7);
        DUE.is("clear again", x.clear(), 0);
        DUE.is("cleared text", x.arrows(), 0);
        Due.typed(x, STICK);
        DUE.is("typed anew", x.arrows(), 1);
    }

    private static void bytesInOrder() {
        AlikeArrows x = new AlikeArrows();
        // "bow 20 7": the bytes of 0x626f772032302037, and of the same behind others that do not count.
        DUE.is("eight", x.type(0x626f772032302037L, 8), 8);
        DUE.is("one of eight", x.type(0x626f77203230203bL, 1), 9);
        DUE.is("read", x.arrows(), 1);
        DUE.is("DRAW", x.bow(0, 0), 20);
        DUE.is("WIDE", x.bow(0, 1), 7);
        x.type(0x626f77L, 3);
        x.type(0x39390203036203bL, 2);
        DUE.is("bow and a blank and an end", x.arrows(), -14);
        x.clear();
        x.type(0xff626f77203331L, 6);
        x.type(0x2039203bL, 4);
        DUE.is("upper bytes do not count", x.arrows(), 1);
        DUE.is("DRAW 31", x.bow(0, 0), 31);
        DUE.is("WIDE 9", x.bow(0, 1), 9);
    }

    private static void reads(String text, int want) {
        AlikeArrows x = new AlikeArrows();
        Due.typed(x, text);
        DUE.is("arrows of \"" + text + "\"", x.arrows(), want);
        DUE.is("bytes behind \"" + text + "\"", x.count(4), want < 0 ? text.length() : 0);
    }

    private static void fault(String text, int fault) {
        reads(text, -10 - fault);
    }

    private static void goodTexts() {
        reads("", 0);
        reads("   ", 0);
        reads(STICK, 1);
        reads("stick80 200 20 20 0 0;bow20 0;archer left0 0;", 3);
        reads("  stick   130  600 99   99 200 9  ;  bow 70 9 ;archer  right 30   20 ; ", 3);
        reads("stick 112 300 50 46 0 3 ; bow 42 3; archer left 0 0; bow 20 0;bow 30 9;", 5);
        reads("archer right0 0;archer left 30 20;archer left 1 1;", 3);
        reads(STICK.repeat(12), 12);
        AlikeArrows x = Due.told("archer left 7 3;bow 33 4;stick 81 201 22 23 24 5;stick 130 600 99 98 200 9;");
        DUE.is("LENGTH", x.stick(0, 0), 81);
        DUE.is("WEIGHT", x.stick(0, 1), 201);
        DUE.is("STIFF 0", x.stick(0, 2), 22);
        DUE.is("STIFF 1", x.stick(0, 3), 23);
        DUE.is("TIP", x.stick(0, 4), 24);
        DUE.is("FEATHER", x.stick(0, 5), 5);
        DUE.is("NOTCH", x.stick(0, 6), 0);
        DUE.is("second stick", x.stick(1, 3), 98);
        DUE.is("DRAW", x.bow(0, 0), 33);
        DUE.is("AIM", x.archer(0, 0), -7);
    }

    private static void faultsOfPlace() {
        fault(";", 0);
        fault("  ;", 2);
        fault("7", 0);
        fault(" 7 stick", 1);
        fault("left 3 4;", 0);
        fault("right 3 4;", 0);
        fault("bow 20 1;;", 9);
        fault("bow 20 1 ; 7", 11);
        fault("bow;", 3);
        fault("bow bow", 4);
        fault("bow 20;", 6);
        fault("bow 20 1 2;", 9);
        fault("bow 20 1 bow", 9);
        fault("archer 5 5;", 7);
        fault("archer left right", 12);
        fault("archer right;", 12);
        fault("archer left 5 stick", 14);
        fault("stick stick", 6);
        fault("stick 112 300 50 46 0 3 9;", 24);
        fault("stick 112 300 50 46 0;", 21);
    }

    private static void faultsOfNumbers() {
        String[] goods = {"80", "200", "20", "20", "0", "0"};
        String[][] wrongs = {{"79", "131"}, {"199", "601"}, {"19", "100"}, {"19", "100"}, {"201"}, {"10"}};
        for (int k = 0; k < goods.length; k++) {
            for (String wrong : wrongs[k]) oneNumber("stick", goods, k, wrong);
        }
        for (String wrong : new String[] {"19", "71", "1000", "020", "00"}) oneNumber("bow", new String[] {"20", "0"}, 0, wrong);
        for (String wrong : new String[] {"10", "00", "05", "1000"}) oneNumber("bow", new String[] {"20", "0"}, 1, wrong);
        for (String wrong : new String[] {"31", "00", "030"}) oneNumber("archer left", new String[] {"0", "0"}, 0, wrong);
        for (String wrong : new String[] {"21", "99999999999999999999", "4294967296"}) {
            oneNumber("archer right", new String[] {"0", "0"}, 1, wrong);
        }
        fault("1000", 0);
        fault("bow -20 1;", 4);
        fault("bow 20.5 1;", 6);
        fault("bow 2 0 1;", 4);
        fault("stick 112 600 99 20 196 0 ; stick 80 200 99 99 00 0;", 47);
    }

    private static void oneNumber(String word, String[] goods, int place, String wrong) {
        StringBuilder text = new StringBuilder("  ").append(word);
        int fault = 0;
        for (int k = 0; k < goods.length; k++) {
            text.append(' ');
            if (k == place) fault = text.length();
            text.append(k == place ? wrong : goods[k]);
        }
        fault(text.append(';').toString(), fault);
    }

    private static void faultsOfWords() {
        fault("arrow 1;", 0);
        fault("sticks 112 300 50 46 0 3;", 0);
        fault(" stic 112", 1);
        fault("stickbow 20 1;", 0);
        fault("Stick 112 300 50 46 0 3;", 0);
        fault("bow 20 1;bo", 9);
        fault("bow 20 x;", 7);
        fault("bow 20 1x;", 8);
        fault("archer leftright 5 5;", 7);
        fault("archer lef 5 5;", 7);
        fault("archerleft 5 5 ;", 0);
        fault("bow\t20 1;", 3);
        fault("bow 20 1;" + (char) 0, 9);
        fault("bow 20 1;" + (char) 255, 9);
        fault("bow 20 1:", 8);
        fault("bow 20 1`", 8);
        fault("bow{20 1;", 3);
        fault("bow 20 1/", 8);
    }

    private static void faultsOfEnd() {
        fault("stick", 5);
        fault("stick   ", 8);
        fault("stick 112 300 50 46 0 3", 23);
        fault("bow 20 1", 8);
        fault("bow 20 1  ", 10);
        fault("bow 20", 6);
        fault("archer", 6);
        fault("archer left", 11);
        fault("archer left ", 12);
        fault("archer left 5", 13);
        fault("bow 20 1;bow", 12);
        fault("bow 20 1" + " ".repeat(392), 400);
        fault(" ".repeat(397) + "bow", 400);
        fault(" ".repeat(393) + "bow 20 ", 400);
        fault(" ".repeat(399) + "9", 399);
    }

    private static void faultsOfMany() {
        fault(STICK.repeat(12) + " " + STICK, 289);
        fault(STICK.repeat(12) + "bow 20 1;stick", 297);
        fault("bow 20 0;bow 20 0;bow 20 0; bow 20 0;", 28);
        fault("archer left 0 0;archer left 0 0;archer left 0 0;archer", 48);
    }

    private static void faultLeavesAll() {
        AlikeArrows x = Due.told(STICK + "bow 42 3;archer left 5 3;");
        x.turn(0);
        x.shoot(0, 0, 0);
        x.keep(1);
        int lot = x.lot(77);
        x.lot(lot);
        Due.typed(x, "stick 80 200 20 20 0 0;stick 80 200 20 20 0 0;bow 20 0;bow");
        DUE.is("fault", x.arrows(), -10 - 58);
        DUE.is("text stays", x.count(4), 58);
        DUE.is("sticks stay", x.count(0), 1);
        DUE.is("bows stay", x.count(1), 1);
        DUE.is("archers stay", x.count(2), 1);
        DUE.is("shots stay", x.count(3), 1);
        DUE.is("LENGTH stays", x.stick(0, 0), 112);
        DUE.is("NOTCH stays", x.stick(0, 6), 1);
        DUE.is("DRAW stays", x.bow(0, 0), 42);
        DUE.is("AIM stays", x.archer(0, 0), -5);
        DUE.is("image stays", x.back(1), 1);
        Due.typed(x, " 30 1;");
        DUE.is("text goes on", x.arrows(), 4);
        DUE.is("read", x.stick(1, 0), 80);
    }

    private static void readAnew() {
        AlikeArrows x = Due.told(STICK + "bow 42 3;archer left 5 3;");
        x.turn(0);
        x.shoot(0, 0, 0);
        x.keep(0);
        x.keep(1);
        x.tune(3, 5);
        x.rate(0, 0);
        x.lot(1234);
        Due.typed(x, STICK + STICK + "bow 30 0;");
        DUE.is("anew", x.arrows(), 3);
        DUE.is("sticks", x.count(0), 2);
        DUE.is("bows", x.count(1), 1);
        DUE.is("archers", x.count(2), 0);
        DUE.is("sheet is empty", x.count(3), 0);
        DUE.is("NOTCH is 0", x.stick(0, 6), 0);
        DUE.is("image 0 is gone", x.back(0), Due.STATE);
        DUE.is("image 1 is gone", x.back(1), Due.STATE);
        DUE.is("tunes stay", x.tune(3, 5), 5);
        DUE.is("lot stays", x.lot(1234), 1234);
        x.rate(0, 0);
        DUE.is("trace goes on", x.trace(), 2);
        x.turn(0);
        x.turn(1);
        Due.typed(x, STICK + "archer left 1 1;" + STICK);
        DUE.is("a third time", x.arrows(), 3);
        DUE.is("a third time: bows", x.count(1), 0);
        DUE.is("a third time: archers", x.count(2), 1);
        x.turn(0);
        Due.typed(x, STICK + STICK);
        DUE.is("a fourth time", x.arrows(), 2);
        DUE.is("a fourth time: archers", x.count(2), 0);
        DUE.is("a fourth time: NOTCH of 0", x.stick(0, 6), 0);
        DUE.is("a fourth time: NOTCH of 1", x.stick(1, 6), 0);
        DUE.is("read nothing", x.arrows(), 0);
        DUE.is("nothing is there", x.count(0) + x.count(1), 0);
    }

    private static void counting() {
        AlikeArrows x = Due.told(STICK + STICK + STICK + "bow 42 3;bow 42 3;archer left 5 3;");
        x.shoot(0, 0, 0);
        x.shoot(0, 0, 0);
        x.shoot(0, 0, 0);
        x.shoot(0, 0, 0);
        x.type(32, 5);
        DUE.is("count 0", x.count(0), 3);
        DUE.is("count 1", x.count(1), 2);
        DUE.is("count 2", x.count(2), 1);
        DUE.is("count 3", x.count(3), 4);
        DUE.is("count 4", x.count(4), 5);
        DUE.is("count 5", x.count(5), Due.BAD);
        DUE.is("count -1", x.count(-1), Due.BAD);
        DUE.is("count most", x.count(Integer.MAX_VALUE), Due.BAD);
    }
}
