/** One test for each sentence on THE TEXT that names an edge: promises 1 to 4 and 32, and what "Terms" says of reading. */
public final class TextEdgesTest {
    private static final Due DUE = new Due("TextEdgesTest");
    private static final String[] STICK = {"stick", "80", "200", "20", "20", "0", "0", ";"};
    private static final String[] BOW = {"bow", "20", "0", ";"};
    private static final String[] LEFT = {"archer", "left", "0", "0", ";"};
    private static final String[] RIGHT = {"archer", "right", "0", "0", ";"};
    private static final String[][] ITEMS = {STICK, BOW, LEFT, RIGHT};

    public static void main(String[] args) {
        constants();
        newObject();
        howManyBytes();
        lowestBytes();
        bytesFromZeroOn();
        textFull();
        badAheadOfFull();
        cleared();
        nothingStaysBehind();
        itemsCounted();
        noItems();
        textIsEmptyThen();
        twelveSticks();
        threeBows();
        threeArchers();
        numbersInRange();
        notchAtFirst();
        blanks();
        blanksNeeded();
        ended();
        letters();
        digits();
        tokensOutOfPlace();
        thirteenthStick();
        fourthBow();
        fourthArcher();
        bytesThatBeginNone();
        wordsThatAreNone();
        above999();
        zeroAhead();
        endsTooEarly();
        theFirstFault();
        faultChangesNothing();
        counts();
        DUE.end();
    }

    private static String joined(String... tokens) {
        return String.join(" ", tokens);
    }

    /** The first tokens of an item, each with a blank behind it. */
    private static String begun(String[] item, int tokens) {
        StringBuilder text = new StringBuilder();
        for (int k = 0; k < tokens; k++) text.append(item[k]).append(' ');
        return text.toString();
    }

    private static void reads(String text, int items) {
        AlikeArrows x = new AlikeArrows();
        DUE.is("type all of \"" + text + "\"", Due.typed(x, text), text.length());
        DUE.is("arrows of \"" + text + "\"", x.arrows(), items);
    }

    private static void fault(String text, int fault) {
        reads(text, -10 - fault);
    }

    private static void constants() {
        DUE.sentence("BAD = -1, STATE = -2, FULL = -3, NONE = -9; NO = -1000000");
        DUE.is("BAD", AlikeArrows.BAD, -1);
        DUE.is("STATE", AlikeArrows.STATE, -2);
        DUE.is("FULL", AlikeArrows.FULL, -3);
        DUE.is("NONE", AlikeArrows.NONE, -9);
        DUE.is("NO", AlikeArrows.NO, -1000000);
    }

    private static void newObject() {
        DUE.sentence("1: no STICKS, BOWS, ARCHERS; THE LOT is 1");
        AlikeArrows x = new AlikeArrows();
        for (int what = 0; what <= 4; what++) DUE.is("count " + what, x.count(what), 0);
        DUE.is("stick 0", x.stick(0, 0), Due.BAD);
        DUE.is("bow 0", x.bow(0, 0), Due.BAD);
        DUE.is("archer 0", x.archer(0, 0), Due.NO);
        DUE.is("lot", x.lot(2), 1);
    }

    private static void howManyBytes() {
        DUE.sentence("2: n (1 .. 8) bytes of v");
        DUE.range("type", n -> new AlikeArrows().type(-1L, n), 1, 1, 8, 8, Due.BAD);
        DUE.is("none", new AlikeArrows().type(0L, 0), Due.BAD);
    }

    private static void lowestBytes() {
        DUE.sentence("2: The lowest n bytes of v, the highest of them first");
        for (int n = 1; n <= 8; n++) {
            // The last n bytes of "bow 20 1;" behind the others, which stand above them in v or were typed before.
            AlikeArrows x = new AlikeArrows();
            String text = "bow 20 1;";
            for (int k = 0; k < text.length() - n; k++) x.type(~0xffL | text.charAt(k), 1);
            long v = -1L;
            for (int k = text.length() - n; k < text.length(); k++) v = v << 8 | text.charAt(k);
            DUE.is("type the last " + n, x.type(v, n), 9);
            DUE.is("arrows, last " + n, x.arrows(), 1);
            DUE.is("DRAW, last " + n, x.bow(0, 0), 20);
            DUE.is("WIDE, last " + n, x.bow(0, 1), 1);
        }
    }

    private static void bytesFromZeroOn() {
        DUE.sentence("2: bytes are 0 .. 255, and are that many different ones");
        // Each is a sign of a text and 128 more: none of them begins a TOKEN.
        for (char sign : new char[] {' ' + 128, ';' + 128, 'b' + 128, '1' + 128, 0, 127, 128, 255}) fault(sign + "bow 20 1;", 0);
        fault("bow 20 1;" + (char) 255, 9);
        AlikeArrows x = new AlikeArrows();
        x.type(Long.MIN_VALUE, 8);
        DUE.is("128 and seven times 0", x.arrows(), -10);
    }

    private static void textFull() {
        DUE.sentence("2: a text (400 bytes at most); FULL");
        AlikeArrows x = new AlikeArrows();
        DUE.is("type nine", Due.typed(x, "bow 20 1;"), 9);
        for (int size = 17; size <= 393; size += 8) DUE.is("type to " + size, x.type(0x2020202020202020L, 8), size);
        DUE.is("eight beyond 393", x.type(-1L, 8), Due.FULL);
        DUE.is("nothing of these came", x.count(4), 393);
        DUE.is("to 399", x.type(0x202020202020L, 6), 399);
        DUE.is("two beyond 399", x.type(-1L, 2), Due.FULL);
        DUE.is("to 400", x.type(0x20L, 1), 400);
        for (int n = 1; n <= 8; n++) DUE.is(n + " beyond 400", x.type(-1L, n), Due.FULL);
        DUE.is("as many as before", x.count(4), 400);
        DUE.is("all is read", x.arrows(), 1);
        DUE.is("room again", x.type(0x20L, 1), 1);
        AlikeArrows y = new AlikeArrows();
        for (int size = 8; size <= 400; size += 8) DUE.is("eight to " + size, y.type(0x2020202020202020L, 8), size);
        DUE.is("eight beyond 400", y.type(0x2020202020202020L, 8), Due.FULL);
    }

    private static void badAheadOfFull() {
        DUE.sentence("2: BAD; FULL (the first of these)");
        AlikeArrows x = new AlikeArrows();
        Due.typed(x, " ".repeat(400));
        for (int n : new int[] {0, 9, -1, Integer.MIN_VALUE, Integer.MAX_VALUE}) DUE.is("type " + n, x.type(0L, n), Due.BAD);
        DUE.is("type 8", x.type(0L, 8), Due.FULL);
    }

    private static void cleared() {
        DUE.sentence("3: THE TEXT is empty: how many bytes it had");
        AlikeArrows x = new AlikeArrows();
        DUE.is("none", x.clear(), 0);
        x.type(0L, 1);
        DUE.is("one", x.clear(), 1);
        DUE.is("none again", x.clear(), 0);
        Due.typed(x, "#".repeat(400));
        DUE.is("all", x.clear(), 400);
        DUE.is("count", x.count(4), 0);
        DUE.is("an empty one", x.arrows(), 0);
    }

    /** A shorter text, typed once a longer one was cleared or read: nothing of that one stands behind it. */
    private static void nothingStaysBehind() {
        DUE.sentence("3, 4: THE TEXT is empty then: nothing of it stays behind what is typed next");
        for (String[] item : ITEMS) {
            String whole = joined(item);
            for (int length = 1; length < whole.length() - 1; length++) {
                // What is cut in the midst of a NUMBER or a word may be a FAULT of its own: as on a new object, then.
                String text = whole.substring(0, length);
                AlikeArrows fresh = new AlikeArrows(), cleared = new AlikeArrows(), read = Due.told(whole);
                Due.typed(cleared, whole);
                cleared.clear();
                Due.typed(fresh, text);
                Due.typed(cleared, text);
                Due.typed(read, text);
                int due = fresh.arrows();
                DUE.is("\"" + text + "\" is none", due < 0 ? 1 : 0, 1);
                DUE.is("\"" + text + "\", once the whole was cleared", cleared.arrows(), due);
                DUE.is("\"" + text + "\", once the whole was read", read.arrows(), due);
            }
        }
    }

    private static void itemsCounted() {
        DUE.sentence("4: THE TEXT tells all: how many ITEMS");
        for (String[] item : ITEMS) reads(joined(item), 1);
        String most = joined(STICK).repeat(12) + "bow20 0;".repeat(3) + "archer left0 0;".repeat(2) + "archer right0 0;";
        reads(most, 18);
    }

    private static void noItems() {
        DUE.sentence("4: ITEMS (none, too)");
        reads("", 0);
        reads(" ", 0);
        reads(" ".repeat(400), 0);
        AlikeArrows x = Due.told(joined(STICK) + joined(BOW) + joined(LEFT));
        DUE.is("read anew, none", x.arrows(), 0);
        for (int what = 0; what <= 2; what++) DUE.is("count " + what, x.count(what), 0);
        DUE.is("stick 0", x.stick(0, 0), Due.BAD);
    }

    private static void textIsEmptyThen() {
        DUE.sentence("4: THE TEXT is empty then");
        AlikeArrows x = Due.told(joined(BOW));
        DUE.is("count", x.count(4), 0);
        DUE.is("clear", x.clear(), 0);
        Due.typed(x, "bow 20 0");
        DUE.is("only what was typed since", x.arrows(), -10 - 8);
    }

    private static void twelveSticks() {
        DUE.sentence("STICKS 0 .. (12 at most)");
        StringBuilder text = new StringBuilder();
        for (int i = 0; i < 12; i++) text.append("stick ").append(80 + i).append(" 200 20 20 0 0;");
        AlikeArrows x = new AlikeArrows();
        Due.typed(x, text.toString());
        DUE.is("arrows", x.arrows(), 12);
        DUE.is("count", x.count(0), 12);
        for (int i = 0; i < 12; i++) DUE.is("stick " + i, x.stick(i, 0), 80 + i);
        DUE.is("stick 12", x.stick(12, 0), Due.BAD);
    }

    private static void threeBows() {
        DUE.sentence("BOWS 0 .. (3 at most)");
        AlikeArrows x = Due.told("bow 20 0;bow 21 0;bow 22 0;");
        DUE.is("count", x.count(1), 3);
        for (int b = 0; b < 3; b++) DUE.is("bow " + b, x.bow(b, 0), 20 + b);
        DUE.is("bow 3", x.bow(3, 0), Due.BAD);
    }

    private static void threeArchers() {
        DUE.sentence("ARCHERS 0 .. (3 at most)");
        AlikeArrows x = Due.told("archer left 1 0;archer right 2 0;archer left 3 0;");
        DUE.is("count", x.count(2), 3);
        DUE.is("archer 0", x.archer(0, 0), -1);
        DUE.is("archer 1", x.archer(1, 0), 2);
        DUE.is("archer 2", x.archer(2, 0), -3);
        DUE.is("archer 3", x.archer(3, 0), Due.NO);
    }

    private static void numbersInRange() {
        number("LENGTH (80 .. 130)", STICK, 1, 80, 130);
        number("WEIGHT (200 .. 600)", STICK, 2, 200, 600);
        number("STIFF of side 0 (20 .. 99)", STICK, 3, 20, 99);
        number("STIFF of side 1 (20 .. 99)", STICK, 4, 20, 99);
        number("TIP (0 .. 200)", STICK, 5, 0, 200);
        number("FEATHER (0 .. 9)", STICK, 6, 0, 9);
        number("DRAW (20 .. 70)", BOW, 1, 20, 70);
        number("WIDE (0 .. 9)", BOW, 2, 0, 9);
        number("archer left: A 0 .. 30", LEFT, 2, 0, 30);
        number("archer right: A 0 .. 30", RIGHT, 2, 0, 30);
        number("archer left: WANDER (0 .. 20)", LEFT, 3, 0, 20);
        number("archer right: WANDER (0 .. 20)", RIGHT, 3, 0, 20);
    }

    private static void number(String sentence, String[] item, int place, int least, int most) {
        DUE.sentence(sentence + "; FAULT: a NUMBER beyond what it may be, too");
        for (int v : new int[] {least, most}) {
            AlikeArrows x = new AlikeArrows();
            Due.typed(x, with(item, place, v));
            DUE.is(with(item, place, v), x.arrows(), 1);
            DUE.is(with(item, place, v) + " is told", toldBy(x, item, place), item == LEFT && place == 2 ? -v : v);
        }
        int fault = begun(item, place).length();
        if (least > 0) fault(with(item, place, least - 1), fault);
        if (least > 0) fault(with(item, place, 0), fault);
        fault(with(item, place, most + 1), fault);
        fault(with(item, place, 999), fault);
    }

    private static String with(String[] item, int place, int v) {
        String[] other = item.clone();
        other[place] = Integer.toString(v);
        return joined(other);
    }

    private static int toldBy(AlikeArrows x, String[] item, int place) {
        if (item == STICK) return x.stick(0, place - 1);
        return item == BOW ? x.bow(0, place - 1) : x.archer(0, place - 2);
    }

    private static void notchAtFirst() {
        DUE.sentence("its NOTCH is set by side 0 or 1 (0 at first)");
        AlikeArrows x = Due.told(joined(STICK).repeat(3));
        for (int i = 0; i < 3; i++) DUE.is("NOTCH of " + i, x.stick(i, 6), 0);
        for (int i = 0; i < 3; i++) DUE.is("turn " + i, x.turn(i), 1);
        // Two readings, as what was read before might be used again.
        for (int times = 0; times < 2; times++) {
            Due.typed(x, joined(STICK).repeat(3));
            x.arrows();
            for (int i = 0; i < 3; i++) DUE.is("NOTCH of " + i + ", read anew", x.stick(i, 6), 0);
            for (int i = 0; i < 3; i++) x.turn(i);
        }
    }

    private static void blanks() {
        DUE.sentence("blanks (32), any number, ahead of, between, behind TOKENS");
        for (String[] item : ITEMS) {
            for (int many : new int[] {1, 2, 30}) {
                String gap = " ".repeat(many);
                reads(gap + String.join(gap, item) + gap, 1);
            }
        }
        reads(" ".repeat(392) + "bow20 0;", 1);
        reads("bow20 0;" + " ".repeat(392), 1);
        reads("bow" + " ".repeat(392) + "20 0;", 1);
        // No other sign is a blank.
        for (char sign : new char[] {0, 9, 10, 11, 12, 13, 31, 33, '_', 160}) {
            fault(sign + "bow 20 0;", 0);
            fault("bow" + sign + "20 0;", 3);
            fault("bow 20" + sign + "0;", 6);
            fault("bow 20 0;" + sign, 9);
        }
    }

    private static void blanksNeeded() {
        DUE.sentence("needed only between two rows of letters, two NUMBERS");
        reads("stick80 200 20 20 0 0;bow20 0;archer left0 0;archer right30 20;bow70 9;", 5);
        // Without a blank the two are one.
        fault("archerleft 0 0;", 0);
        fault("archerright 0 0;", 0);
        fault("bow 200;", 4);
        fault("stick 80200 20 20 0 0;", 6);
        fault("archer left 00;", 12);
        fault("archer left 10;", 14);
    }

    private static void ended() {
        DUE.sentence("ITEMS each ended by ;");
        for (String[] item : ITEMS) {
            String open = begun(item, item.length - 1);
            fault(open + "bow 20 0;", open.length());
            fault(open, open.length());
            fault(open + ";;", open.length() + 1);
            fault(open + "; ;", open.length() + 2);
            fault(open + ":", open.length());
        }
        fault(";", 0);
    }

    private static void letters() {
        DUE.sentence("TOKENS are words of letters a .. z");
        // a and z belong to the word, what stands next to them does not.
        fault("bowa 20 0;", 0);
        fault("bowz 20 0;", 0);
        for (char sign : new char[] {'`', '{', 'A', 'Z', '@', '[', 'a' + 128}) fault("bow" + sign + " 20 0;", 3);
        fault("Bow 20 0;", 0);
        fault("boW 20 0;", 0);
    }

    private static void digits() {
        DUE.sentence("TOKENS are NUMBERS");
        reads("bow 20 9;", 1);
        reads("stick 100 210 32 54 76 8;stick 109 298 37 65 40 1;", 2);
        // 0 and 9 belong to the number, what stands next to them does not.
        fault("bow 20 1/", 8);
        fault("bow 20 1:", 8);
        fault("bow 2/0 1;", 4);
        fault("bow 20/0 1;", 6);
        fault("bow 20:0 1;", 6);
        fault("bow 20 " + (char) ('0' + 128), 7);
    }

    private static void tokensOutOfPlace() {
        DUE.sentence("FAULT: the place of the first byte of the first TOKEN that can't stand there");
        String[] all = {"stick", "bow", "archer", "left", "right", "20", ";"};
        for (String[] item : ITEMS) {
            for (int place = 0; place < item.length; place++) {
                for (String token : all) {
                    if (mayStand(item, place, token)) continue;
                    String text = begun(item, place);
                    fault(text + token, text.length());
                    fault("bow 20 0; " + text + token + " 7;", 10 + text.length());
                }
            }
        }
    }

    private static boolean mayStand(String[] item, int place, String token) {
        if (place == 0) return token.equals("stick") || token.equals("bow") || token.equals("archer");
        if (item[place].equals("left") || item[place].equals("right")) return token.equals("left") || token.equals("right");
        if (item[place].equals(";")) return token.equals(";");
        return token.equals("20");
    }

    private static void thirteenthStick() {
        DUE.sentence("FAULT: a 13th stick, too");
        String twelve = "stick 80 200 20 20 0 0;".repeat(12);
        fault(twelve + "stick 80 200 20 20 0 0;", 276);
        fault(twelve + "  stick", 278);
        fault(twelve + "bow 20 0;stick 1", 285);
        reads(twelve + "bow 20 0;archer left 0 0;", 14);
        // A word that only begins so is none of these, at the same place.
        fault(twelve + "sticks", 276);
    }

    private static void fourthBow() {
        DUE.sentence("FAULT: a fourth bow, too");
        fault("bow 20 0;".repeat(4), 27);
        fault("bow 20 0;".repeat(3) + " bow", 28);
        reads("bow 20 0;".repeat(3) + "stick 80 200 20 20 0 0;archer left 0 0;", 5);
    }

    private static void fourthArcher() {
        DUE.sentence("FAULT: a fourth archer, too");
        fault("archer left 0 0;".repeat(4), 48);
        fault("archer right 0 0;".repeat(3) + " archer", 52);
        reads("archer left 0 0;".repeat(3) + "stick 80 200 20 20 0 0;bow 20 0;", 5);
    }

    private static void bytesThatBeginNone() {
        DUE.sentence("FAULT: of a byte that begins none");
        for (char sign : new char[] {0, 31, '!', '-', '+', '.', ',', '/', ':', '<', '@', 'A', '[', '`', '{', 127, 128, 255}) {
            for (String[] item : ITEMS) {
                for (int place = 0; place <= item.length; place++) {
                    String text = begun(item, place);
                    fault(text + sign, text.length());
                }
            }
        }
    }

    private static void wordsThatAreNone() {
        DUE.sentence("FAULT: a word that is none of these");
        for (String word : new String[] {"s", "stic", "sticks", "tick", "bo", "bows", "ow", "arche", "archers", "lef", "lefts", "righ", "rights", "x"}) {
            for (String[] item : ITEMS) {
                for (int place = 0; place <= item.length; place++) {
                    String text = begun(item, place);
                    fault(text + word, text.length());
                    fault(text + word + " 20", text.length());
                }
            }
        }
    }

    private static void above999() {
        DUE.sentence("FAULT: a NUMBER above 999");
        // The later ones would be 20 again, if they were wrapped.
        String[] wide = {"1000", "9999", "4294967316", "18446744073709551636", "1" + "0".repeat(300)};
        for (String number : wide) {
            fault(number, 0);
            fault("bow " + number + " 0;", 4);
            fault("bow 20 " + number + ";", 7);
            fault("bow 20 0 " + number + ";", 9);
            fault("stick 80 200 " + number + " 20 0 0;", 13);
            fault("archer left " + number + " 0;", 12);
            fault("bow 20 0;" + number, 9);
        }
        // 0 again, if it were wrapped or only its last signs were looked at.
        fault("bow 20 4294967296;", 7);
        fault("bow 20 65536;", 7);
        fault("bow 20 1000;", 7);
    }

    private static void zeroAhead() {
        DUE.sentence("FAULT: a NUMBER with a 0 ahead of others");
        for (String number : new String[] {"00", "020", "0020", "000", "01"}) {
            fault(number, 0);
            fault("bow " + number + " 0;", 4);
            fault("bow 20 " + number + ";", 7);
            fault("archer right 5 " + number + ";", 15);
            fault("stick 80 200 20 20 " + number + " 0;", 19);
        }
        reads("stick 80 200 20 20 0 0;bow 20 0;archer right 0 0;", 3);
        reads("stick 100 200 20 20 10 0;bow 30 0;archer left 10 10;", 3);
    }

    private static void endsTooEarly() {
        DUE.sentence("FAULT: the text's length, if it ends too early");
        for (String[] item : ITEMS) {
            for (int tokens = 1; tokens < item.length; tokens++) {
                String text = begun(item, tokens);
                fault(text, text.length());
                fault(text.trim(), text.length() - 1);
                fault(text + " ".repeat(7), text.length() + 7);
                fault("bow 70 9;" + text, text.length() + 9);
                fault(" ".repeat(400 - text.length()) + text, 400);
            }
        }
        fault("bow 2", 4);
        fault(" ".repeat(397) + "bow", 400);
    }

    private static void theFirstFault() {
        DUE.sentence("FAULT: the first of several");
        fault("bow 19 10", 4);
        fault("bow 20 10 -", 7);
        fault("bow - 00", 4);
        fault("boo 19 10;", 0);
        fault("stick 80 200 20 20 201 10", 19);
        fault("bow 20 0; ; -", 10);
        fault("#".repeat(400), 0);
        fault(" ".repeat(399) + "#", 399);
    }

    private static void faultChangesNothing() {
        DUE.sentence("4: -10 less FAULT: nothing changes (THE TEXT stays, too)");
        AlikeArrows x = Due.told("stick 81 201 21 22 1 2;bow 30 4;archer right 5 6;");
        x.turn(0);
        x.shoot(0, 0, 0);
        x.keep(0);
        String before = Seen.of(x);
        String text = "stick 82 202 23 24 3 4;stick 82 202 23 24 3 4;bow 31 5;archer left 7 8;archer";
        Due.typed(x, text);
        for (int times = 0; times < 2; times++) DUE.is("arrows", x.arrows(), -10 - text.length());
        DUE.is("clear", x.clear(), text.length());
        DUE.is("all is as before", Seen.of(x).equals(before) ? 1 : 0, 1);
        DUE.is("the image, too", x.back(0), 1);
        DUE.is("all of the image, too", Seen.of(x).equals(before) ? 1 : 0, 1);
    }

    private static void counts() {
        DUE.sentence("32: count 0 .. 4; BAD");
        AlikeArrows x = Due.told(joined(STICK).repeat(2) + joined(BOW).repeat(3) + joined(LEFT));
        for (int k = 0; k < 4; k++) x.shoot(0, 0, 0);
        Due.typed(x, "     ");
        DUE.range("count", what -> x.count(what), 0, 2, 4, 5, Due.BAD);
        DUE.is("count 1", x.count(1), 3);
        DUE.is("count 2", x.count(2), 1);
        DUE.is("count 3", x.count(3), 4);
    }
}
