/** All that the calls tell of an object, as one text. */
final class Seen {
    private Seen() { }

    /** Without the images, and what the bytes of THE TEXT are; the object is as before then. */
    static String of(AlikeArrows x) {
        StringBuilder all = new StringBuilder();
        for (int what = 0; what <= 4; what++) all.append(x.count(what)).append(' ');
        for (int i = 0; i < x.count(0); i++) {
            for (int what = 0; what <= 6; what++) all.append(x.stick(i, what)).append(' ');
        }
        for (int b = 0; b < x.count(1); b++) all.append(x.bow(b, 0)).append(' ').append(x.bow(b, 1)).append(' ');
        for (int a = 0; a < x.count(2); a++) all.append(x.archer(a, 0)).append(' ').append(x.archer(a, 1)).append(' ');
        for (int k = 0; k < x.count(3); k++) {
            for (int what = 0; what <= 4; what++) all.append(x.shot(k, what)).append(' ');
        }
        for (int what = 0; what <= 3; what++) {
            int v = x.tune(what, 0);
            x.tune(what, v);
            all.append(v).append(' ');
        }
        int lot = x.lot(0);
        x.lot(lot);
        return all.append(lot).append(' ').append(x.trace()).toString();
    }

    /** With the images (the object is as an image has it then). */
    static String wholly(AlikeArrows x) {
        StringBuilder all = new StringBuilder(of(x));
        for (int image = 0; image <= 1; image++) all.append(" / ").append(x.back(image)).append(' ').append(of(x));
        return all.toString();
    }
}
