import java.util.function.IntUnaryOperator;

/** Counts the calls whose answer is not the one that is due, and prints each. */
final class Due {
    static final int BAD = -1, STATE = -2, FULL = -3, NONE = -9, NO = -1000000;

    private final String test;
    private String sentence = "";
    private int calls, wrong, sentences;

    Due(String test) {
        this.test = test;
    }

    /** From here on the calls test this sentence of the document; what is wrong is told with its words. */
    void sentence(String words) {
        sentence = " [" + words + "]";
        sentences++;
    }

    void is(String call, long got, long want) {
        calls++;
        if (got == want) return;
        wrong++;
        System.out.println(test + sentence + ": " + call + " answered " + got + ", due is " + want);
    }

    /** A number that may be from least to most: what is due at both ends, and that it is refused just beyond them and far off. */
    void range(String call, IntUnaryOperator by, int least, int atLeast, int most, int atMost, int refused) {
        is(call + " by " + least, by.applyAsInt(least), atLeast);
        is(call + " by " + most, by.applyAsInt(most), atMost);
        for (int beyond : new int[] {least - 1, most + 1, Integer.MIN_VALUE, Integer.MAX_VALUE}) {
            is(call + " by " + beyond, by.applyAsInt(beyond), refused);
        }
    }

    void end() {
        String of = sentences == 0 ? "" : sentences + " sentences, ";
        System.out.println(test + ": " + of + calls + " calls, " + wrong + " wrong");
        if (wrong != 0) System.exit(1);
    }

    /** Types a text in pieces of up to eight bytes; answers what the last piece answered. */
    static int typed(AlikeArrows x, String text) {
        int answer = 0;
        for (int from = 0; from < text.length(); from += 8) {
            String piece = text.substring(from, Math.min(text.length(), from + 8));
            long v = 0;
            for (int k = 0; k < piece.length(); k++) v = v << 8 | piece.charAt(k) & 255;
            answer = x.type(v, piece.length());
        }
        return answer;
    }

    /** A new object that was told a text. */
    static AlikeArrows told(String text) {
        AlikeArrows x = new AlikeArrows();
        typed(x, text);
        x.arrows();
        return x;
    }
}
