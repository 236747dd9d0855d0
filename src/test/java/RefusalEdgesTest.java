import java.util.function.ToLongFunction;

/**
 * "Refused, and nothing changes, the first of these: BAD .., STATE .., FULL": for each call, against a twin that was not asked.
 * Calls that only tell change nothing, either.
 */
public final class RefusalEdgesTest {
    private static final Due DUE = new Due("RefusalEdgesTest");
    private static final int[] FAR = {Integer.MIN_VALUE, -1, Integer.MAX_VALUE};

    public static void main(String[] args) {
        types();
        full();
        faults();
        acts();
        actsByState();
        tunes();
        shots();
        fullSheet();
        outs();
        rates();
        images();
        lookers();
        lookersRefused();
        DUE.end();
    }

    /** Stick 0 may be cut, scraped and loaded once more, stick 1 not at all; image 0 is kept, 1 is not; a text is begun. */
    private static AlikeArrows made() {
        AlikeArrows x = Due.told("stick 81 202 21 60 195 3;stick 80 200 20 20 200 9;bow 40 2;archer left 2 5;");
        x.tune(0, 3);
        x.tune(3, 2);
        x.turn(1);
        x.shoot(0, 0, 0);
        x.keep(0);
        x.turn(0);
        x.shoot(1, 0, 0);
        x.rate(1, 0);
        x.lot(99);
        Due.typed(x, "bow 30");
        return x;
    }

    /** All that can be seen, with the images, and what the begun text tells when it is ended. */
    private static String all(AlikeArrows x) {
        String before = Seen.wholly(x);
        Due.typed(x, " 1;");
        return before + " / " + x.arrows() + " " + Seen.of(x);
    }

    private static void same(String call, AlikeArrows x, AlikeArrows twin) {
        String got = all(x), want = all(twin);
        DUE.is(call + " changes nothing (" + got + " / is / " + want + ")", got.equals(want) ? 1 : 0, 1);
    }

    private static void refused(String call, ToLongFunction<AlikeArrows> asked, long want) {
        AlikeArrows x = made();
        DUE.is(call, asked.applyAsLong(x), want);
        same(call, x, made());
    }

    private static void types() {
        DUE.sentence("Refused, and nothing changes: type: BAD");
        for (int n : new int[] {Integer.MIN_VALUE, -1, 0, 9, Integer.MAX_VALUE}) refused("type", x -> x.type(0x3b3b3b3b3b3b3b3bL, n), Due.BAD);
    }

    private static void full() {
        DUE.sentence("Refused, and nothing changes: type: FULL");
        for (int n = 2; n <= 8; n++) {
            AlikeArrows x = made();
            DUE.is("type to 399", Due.typed(x, " ".repeat(393)), 399);
            DUE.is("type " + n, x.type(0x3b3b3b3b3b3b3b3bL, n), Due.FULL);
            DUE.is("count", x.count(4), 399);
            DUE.is("a NUMBER is still to come", x.arrows(), -10 - 399);
        }
    }

    private static void faults() {
        DUE.sentence("Refused, and nothing changes: arrows: FAULT");
        refused("arrows", x -> x.arrows(), -10 - 6);
        refused("arrows, twice", x -> x.arrows() + x.arrows(), -32);
    }

    private static void acts() {
        DUE.sentence("Refused, and nothing changes: cut, scrape, load, turn: BAD");
        for (int i : new int[] {Integer.MIN_VALUE, -1, 2, 12, Integer.MAX_VALUE}) {
            refused("cut " + i, x -> x.cut(i), Due.BAD);
            refused("scrape " + i, x -> x.scrape(i), Due.BAD);
            refused("load " + i, x -> x.load(i), Due.BAD);
            refused("turn " + i, x -> x.turn(i), Due.BAD);
        }
    }

    private static void actsByState() {
        DUE.sentence("what may not be is refused: cut, scrape, load: STATE");
        refused("cut 1", x -> x.cut(1), Due.STATE);
        refused("scrape 1", x -> x.scrape(1), Due.STATE);
        refused("load 1", x -> x.load(1), Due.STATE);
        // One may be, the second not: as if it had been asked once.
        AlikeArrows x = made(), twin = made();
        for (AlikeArrows one : new AlikeArrows[] {x, twin}) {
            DUE.is("cut 0", one.cut(0), 80);
            DUE.is("scrape 0", one.scrape(0), 200);
            DUE.is("load 0", one.load(0), 200);
        }
        DUE.is("cut 0 again", x.cut(0), Due.STATE);
        DUE.is("scrape 0 again", x.scrape(0), Due.STATE);
        DUE.is("load 0 again", x.load(0), Due.STATE);
        same("each again", x, twin);
    }

    private static void tunes() {
        DUE.sentence("Refused, and nothing changes: tune: NO");
        for (int what : new int[] {Integer.MIN_VALUE, -1, 4, Integer.MAX_VALUE}) refused("tune " + what, x -> x.tune(what, 1), Due.NO);
        int[] below = {-1, -1, -1, -10}, above = {21, 61, 31, 10};
        for (int what = 0; what <= 3; what++) {
            int tune = what;
            refused("tune " + what + " below", x -> x.tune(tune, below[tune]), Due.NO);
            refused("tune " + what + " above", x -> x.tune(tune, above[tune]), Due.NO);
        }
    }

    private static void shots() {
        DUE.sentence("Refused, and nothing changes: shoot: NO");
        for (int far : FAR) {
            refused("shoot stick " + far, x -> x.shoot(far, 0, 0), Due.NO);
            refused("shoot bow " + far, x -> x.shoot(0, far, 0), Due.NO);
            refused("shoot archer " + far, x -> x.shoot(0, 0, far), Due.NO);
        }
        refused("shoot stick 2", x -> x.shoot(2, 0, 0), Due.NO);
        refused("shoot bow 1", x -> x.shoot(0, 1, 0), Due.NO);
        refused("shoot archer 1", x -> x.shoot(0, 0, 1), Due.NO);
    }

    private static void fullSheet() {
        DUE.sentence("Refused, and nothing changes: shoot: THE SHEET is full");
        AlikeArrows x = made();
        while (x.count(3) < 60) x.shoot(0, 0, 0);
        int last = x.shot(59, 3);
        x.lot(5);
        DUE.is("shoot", x.shoot(1, 0, 0), Due.NO);
        DUE.is("lot", x.lot(5), 5);
        DUE.is("count", x.count(3), 60);
        DUE.is("the last one's stick", x.shot(59, 0), 0);
        DUE.is("the last one's x", x.shot(59, 3), last);
    }

    private static void outs() {
        DUE.sentence("Refused, and nothing changes: out, spread: BAD, STATE, NONE");
        refused("out stick 2", x -> x.out(2, 0), Due.BAD);
        refused("out r 100", x -> x.out(0, 100), Due.BAD);
        refused("spread 2", x -> x.spread(2), Due.BAD);
        AlikeArrows x = made(), twin = made();
        x.wipe();
        twin.wipe();
        DUE.is("out", x.out(0, 0), Due.STATE);
        DUE.is("spread", x.spread(0), Due.NONE);
        DUE.is("parted", x.parted(), Due.NONE);
        same("out, spread, parted", x, twin);
    }

    private static void rates() {
        DUE.sentence("Refused, and nothing changes: rate: NO");
        for (int kind : new int[] {Integer.MIN_VALUE, -1, 6, Integer.MAX_VALUE}) refused("rate kind " + kind, x -> x.rate(kind, 0), Due.NO);
        for (int i : new int[] {Integer.MIN_VALUE, -1, 2, Integer.MAX_VALUE}) {
            for (int kind = 0; kind <= 5; kind++) {
                int k = kind;
                refused("rate stick " + i, x -> x.rate(k, i), Due.NO);
            }
        }
    }

    private static void images() {
        DUE.sentence("Refused, and nothing changes: keep, back: BAD, STATE");
        for (int image : new int[] {Integer.MIN_VALUE, -1, 2, Integer.MAX_VALUE}) {
            refused("keep " + image, x -> x.keep(image), Due.BAD);
            refused("back " + image, x -> x.back(image), Due.BAD);
        }
        refused("back 1", x -> x.back(1), Due.STATE);
    }

    private static void lookers() {
        DUE.sentence("what only tells changes nothing");
        AlikeArrows x = made();
        for (int what = 0; what <= 5; what++) x.flight(0, 0, what);
        for (int what = 0; what <= 4; what++) x.least(0, 0, 200, 800, what);
        for (int what = 0; what <= 1; what++) {
            x.band(0, 112, 0, what);
            x.says(3, 5, what);
            x.alike(0, 999, 999, what);
            x.wreck(0, 9, what);
            x.warm(0, 20, what);
        }
        x.turned(0, 999, 999);
        x.feather(0, 0, 99);
        x.parted();
        x.spread(0);
        x.out(0, 0);
        x.trace();
        same("all of them", x, made());
    }

    private static void lookersRefused() {
        DUE.sentence("Refused, and nothing changes: all others: BAD, NO, NONE");
        for (int far : FAR) {
            refused("stick", x -> x.stick(far, 0), Due.BAD);
            refused("bow", x -> x.bow(far, 0), Due.BAD);
            refused("archer", x -> x.archer(far, 0), Due.NO);
            refused("least", x -> x.least(far, 0, 200, 800, 0), Due.BAD);
            refused("flight", x -> x.flight(far, 0, 0), Due.NO);
            refused("band", x -> x.band(far, 112, 0, 0), Due.BAD);
            refused("says", x -> x.says(far, 10, 0), Due.NO);
            refused("alike", x -> x.alike(far, 0, 0, 0), Due.BAD);
            refused("turned", x -> x.turned(far, 0, 0), Due.BAD);
            refused("wreck", x -> x.wreck(far, 0, 0), Due.BAD);
            refused("feather", x -> x.feather(far, 0, 0), Due.BAD);
            refused("warm", x -> x.warm(far, 0, 0), Due.BAD);
            refused("shot", x -> x.shot(far, 0), Due.NO);
            refused("count", x -> x.count(far), Due.BAD);
        }
    }
}
