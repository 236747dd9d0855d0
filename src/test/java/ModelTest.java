import java.util.Random;

/** Promises 1 to 33: long runs of calls, each answer against that of the Model. */
public final class ModelTest {
    private static final Due DUE = new Due("ModelTest");
    private static final int RUNS = 240, CALLS = 512;

    private final Random random;
    private final AlikeArrows x = new AlikeArrows();
    private final Model model = new Model();
    private final int mostSticks;
    private int calls;

    private ModelTest(int seed) {
        random = new Random(seed);
        // TURNED of many takes the Model long, so only some runs have all twelve.
        mostSticks = seed % 8 == 0 ? 13 : 7;
    }

    public static void main(String[] args) {
        for (int seed = 0; seed < RUNS; seed++) new ModelTest(seed).run();
        DUE.end();
    }

    private void run() {
        tell();
        while (calls < CALLS) {
            int way = random.nextInt(100);
            if (way == 0) tell();
            else if (way == 1) due("wipe()", x.wipe(), model.wipe());
            else if (way < 30) act();
            else if (way < 60) flights();
            else if (way < 85) shots();
            else look();
        }
    }

    private void due(String call, long got, long want) {
        calls++;
        DUE.is(call, got, want);
    }

    private int from(int least, int most) {
        return least + random.nextInt(most - least + 1);
    }

    /** Mostly from least to most, at times just beyond, seldom far beyond. */
    private int near(int least, int most) {
        int way = random.nextInt(60);
        if (way == 0) return least - 1;
        if (way == 1) return most + 1;
        if (way == 2) return random.nextInt();
        if (way < 6) return least;
        if (way < 9) return most;
        return from(least, Math.max(least, most));
    }

    private int aStick() {
        return near(0, Math.max(0, model.count(0) - 1));
    }

    private int aBow() {
        return near(0, Math.max(0, model.count(1) - 1));
    }

    private int anArcher() {
        return near(0, Math.max(0, model.count(2) - 1));
    }

    private void tell() {
        type(someText());
        due("arrows()", x.arrows(), model.arrows());
        if (model.count(4) > 0) due("clear()", x.clear(), model.clear());
    }

    private void type(String text) {
        for (int at = 0; at < text.length(); ) {
            int n = Math.min(from(1, 8), text.length() - at);
            long v = random.nextLong();
            for (int k = 0; k < n; k++) v = v << 8 | text.charAt(at + k);
            due("type(" + v + ", " + n + ")", x.type(v, n), model.type(v, n));
            at += n;
        }
    }

    private String someText() {
        StringBuilder text = new StringBuilder();
        int sticks = from(0, mostSticks), bows = from(1, 3), archers = from(1, 3);
        for (int k = 0; k < sticks; k++) item(text, "stick", stickNumbers());
        for (int k = 0; k < bows; k++) item(text, "bow", from(20, 70), from(0, 9));
        for (int k = 0; k < archers; k++) item(text, random.nextBoolean() ? "archer left" : "archer right", from(0, 30), from(0, 20));
        if (random.nextInt(5) > 0) return text.toString();
        return spoilt(text);
    }

    private int[] stickNumbers() {
        int way = random.nextInt(3);
        if (way == 0) return new int[] {from(80, 130), from(200, 600), from(20, 99), from(20, 99), from(0, 200), from(0, 9)};
        if (way == 1) return new int[] {from(80, 90), from(200, 220), from(20, 50), from(20, 50), from(0, 30), from(0, 9)};
        return new int[] {from(100, 112), from(300, 330), from(40, 60), from(40, 60), from(0, 20), from(0, 3)};
    }

    private void item(StringBuilder text, String word, int... numbers) {
        text.append(word);
        for (int number : numbers) text.append(random.nextInt(9) == 0 ? "  " : " ").append(number);
        text.append(random.nextInt(9) == 0 ? " ; " : ";");
    }

    private String spoilt(StringBuilder text) {
        int times = from(1, 2);
        for (int k = 0; k < times && text.length() > 0; k++) {
            int at = random.nextInt(text.length());
            switch (random.nextInt(5)) {
                case 0 -> text.deleteCharAt(at);
                case 1 -> text.insert(at, (char) from(0, 255));
                case 2 -> text.insert(at, "0123456789; abkortw".charAt(random.nextInt(19)));
                case 3 -> text.setLength(at);
                default -> text.setCharAt(at, "0123456789; abkortw".charAt(random.nextInt(19)));
            }
        }
        return text.toString();
    }

    private void act() {
        int i = aStick();
        switch (random.nextInt(6)) {
            case 0 -> due("cut(" + i + ")", x.cut(i), model.cut(i));
            case 1 -> due("scrape(" + i + ")", x.scrape(i), model.scrape(i));
            case 2 -> due("load(" + i + ")", x.load(i), model.load(i));
            case 3 -> due("turn(" + i + ")", x.turn(i), model.turn(i));
            case 4 -> {
                int what = near(0, 3);
                int v = what == 3 ? near(-9, 9) : what == 0 ? near(0, 20) : near(0, what == 1 ? 60 : 30);
                due("tune(" + what + ", " + v + ")", x.tune(what, v), model.tune(what, v));
            }
            default -> {
                int a = near(200, 500), b = random.nextInt(4) == 0 ? near(200, 800) : near(a, Math.min(800, Math.abs(a % 900) + 20));
                int bow = aBow(), what = near(0, 4);
                due("least(" + i + ", " + bow + ", " + a + ", " + b + ", " + what + ")",
                    x.least(i, bow, a, b, what), model.least(i, bow, a, b, what));
            }
        }
    }

    private void flights() {
        int i = aStick(), b = aBow(), what = near(0, 1);
        switch (random.nextInt(8)) {
            case 0 -> {
                int of = near(0, 5);
                due("flight(" + i + ", " + b + ", " + of + ")", x.flight(i, b, of), model.flight(i, b, of));
            }
            case 1 -> {
                int length = near(80, 130), tip = near(0, 200);
                due("band(" + b + ", " + length + ", " + tip + ", " + what + ")", x.band(b, length, tip, what), model.band(b, length, tip, what));
            }
            case 2 -> {
                int by = random.nextInt(3) == 0 ? near(-999, 999) : from(-40, 40), feather = near(0, 9);
                due("says(" + by + ", " + feather + ", " + what + ")", x.says(by, feather, what), model.says(by, feather, what));
            }
            case 3 -> {
                int d = gap(), e = gap();
                due("alike(" + b + ", " + d + ", " + e + ", " + what + ")", x.alike(b, d, e, what), model.alike(b, d, e, what));
            }
            case 4 -> {
                if (model.count(0) > 7 && random.nextInt(20) > 0) return;
                int d = gap(), e = gap();
                due("turned(" + b + ", " + d + ", " + e + ")", x.turned(b, d, e), model.turned(b, d, e));
            }
            case 5 -> {
                int wide = near(0, 9);
                due("wreck(" + i + ", " + wide + ", " + what + ")", x.wreck(i, wide, what), model.wreck(i, wide, what));
            }
            case 6 -> {
                int far = near(0, 99);
                due("feather(" + i + ", " + b + ", " + far + ")", x.feather(i, b, far), model.feather(i, b, far));
            }
            default -> {
                int k = near(0, 20);
                due("warm(" + b + ", " + k + ", " + what + ")", x.warm(b, k, what), model.warm(b, k, what));
            }
        }
    }

    private int gap() {
        return random.nextInt(3) == 0 ? near(0, 999) : from(0, 30);
    }

    private void shots() {
        int i = aStick();
        switch (random.nextInt(7)) {
            case 0, 1 -> {
                int b = aBow(), a = anArcher();
                due("shoot(" + i + ", " + b + ", " + a + ")", x.shoot(i, b, a), model.shoot(i, b, a));
            }
            case 2 -> {
                int k = near(0, Math.max(0, model.count(3) - 1)), what = near(0, 4);
                due("shot(" + k + ", " + what + ")", x.shot(k, what), model.shot(k, what));
            }
            case 3 -> due("parted()", x.parted(), model.parted());
            case 4 -> due("spread(" + i + ")", x.spread(i), model.spread(i));
            case 5 -> {
                int r = random.nextBoolean() ? near(0, 99) : from(0, 20);
                due("out(" + i + ", " + r + ")", x.out(i, r), model.out(i, r));
            }
            default -> {
                if (random.nextInt(4) > 0) return;
                int v = random.nextInt();
                due("lot(" + v + ")", x.lot(v), model.lot(v));
            }
        }
    }

    private void look() {
        int i = aStick(), what = near(0, 6);
        switch (random.nextInt(8)) {
            case 0 -> due("stick(" + i + ", " + what + ")", x.stick(i, what), model.stick(i, what));
            case 1 -> due("bow(" + i + ", " + what % 4 + ")", x.bow(i, what % 4), model.bow(i, what % 4));
            case 2 -> due("archer(" + i + ", " + what % 3 + ")", x.archer(i, what % 3), model.archer(i, what % 3));
            case 3 -> due("rate(" + what + ", " + i + ")", x.rate(what, i), model.rate(what, i));
            case 4 -> due("trace()", x.trace(), model.trace());
            case 5 -> due("keep(" + what % 3 + ")", x.keep(what % 3), model.keep(what % 3));
            case 6 -> due("back(" + what % 3 + ")", x.back(what % 3), model.back(what % 3));
            default -> due("count(" + what + ")", x.count(what), model.count(what));
        }
    }
}
