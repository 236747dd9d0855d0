/** Counts the calls whose answer is not the one that is due, and prints each. */
final class Due {
    static final int BAD = -1, STATE = -2, FULL = -3, NONE = -9, NO = -1000000;

    private final String test;
    private int calls, wrong;

    Due(String test) {
        this.test = test;
    }

    void is(String call, long got, long want) {
        calls++;
        if (got == want) return;
        wrong++;
        System.out.println(test + ": " + call + " answered " + got + ", due is " + want);
    }

    void end() {
        System.out.println(test + ": " + calls + " calls, " + wrong + " wrong");
        if (wrong != 0) System.exit(1);
    }

    /** Types a text in pieces of up to eight bytes; answers what the last piece answered. */
    static int typed(AlikeArrows x, String text) {
        int answer = 0;
        for (int from = 0; from < text.length(); from += 8) {
            String piece = text.substring(from, Math.min(text.length(), from + 8));
            long v = 0;
            for (int k = 0; k < piece.length(); k++) v = v << 8 | piece.charAt(k) & 255;
            answer = x.type(v, piece.length());
        }
        return answer;
    }

    /** A new object that was told a text. */
    static AlikeArrows told(String text) {
        AlikeArrows x = new AlikeArrows();
        typed(x, text);
        x.arrows();
        return x;
    }
}
