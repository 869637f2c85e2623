/** What the tests do again and again to an object, and how they read it. */
final class Look {
    private Look() {
    }

    static void paint(BlendRows rows, int r, int g, int b) {
        rows.colour(0, r);
        rows.colour(1, g);
        rows.colour(2, b);
    }

    static void paint(BlendRows rows, int v) {
        paint(rows, v, v, v);
    }

    /** One point, wholly covered with a grey. */
    static BlendRows grey(int v) {
        BlendRows rows = new BlendRows(1, 1);
        paint(rows, v);
        rows.mark(0, 255, 255);
        return rows;
    }

    /** One point whose mask has that byte. */
    static BlendRows masked(int v) {
        BlendRows rows = new BlendRows(1, 1);
        rows.group(true, false);
        rows.mark(0, 255, v);
        rows.mask(1, false);
        return rows;
    }

    static int packed(int r, int g, int b) {
        return r + 256 * g + 65536 * b;
    }

    static int packed(int v) {
        return packed(v, v, v);
    }

    static String colourAt(BlendRows rows, int x, int y) {
        return rows.point(x, y, 0) + " " + rows.point(x, y, 1) + " " + rows.point(x, y, 2);
    }

    static String paperAt(BlendRows rows, int x, int y) {
        return rows.paper(x, y, 0) + " " + rows.paper(x, y, 1) + " " + rows.paper(x, y, 2);
    }

    /** G, F and A. */
    static String alphasAt(BlendRows rows, int x, int y) {
        return rows.alpha(x, y, 0) + " " + rows.alpha(x, y, 1) + " " + rows.alpha(x, y, 2);
    }

    /** The colour; G, F and A. */
    static String at(BlendRows rows, int x, int y) {
        return colourAt(rows, x, y) + ", " + alphasAt(rows, x, y);
    }

    /** Width, height, depth, bound, mask, made. */
    static String toldAll(BlendRows rows) {
        StringBuilder all = new StringBuilder();
        for (int what = 0; what < 6; what++) {
            all.append(rows.told(what)).append(what < 5 ? " " : "");
        }
        return all.toString();
    }

    static String covers(BlendRows rows) {
        return row(rows, 4);
    }

    static String masks(BlendRows rows) {
        return row(rows, 3);
    }

    private static String row(BlendRows rows, int what) {
        int width = rows.told(0);
        int height = rows.told(1);
        StringBuilder all = new StringBuilder();
        for (int y = 0; y < height; y++) {
            for (int x = 0; x < width; x++) {
                all.append(rows.alpha(x, y, what)).append(' ');
            }
            all.append("/ ");
        }
        return all.toString();
    }

    /** All that can be read of an object, in 8 calls, and 11 for each point: an object is good for 512. */
    static String portrait(BlendRows rows) {
        StringBuilder all = new StringBuilder(toldAll(rows));
        int width = rows.told(0);
        int height = rows.told(1);
        for (int y = 0; y < height; y++) {
            for (int x = 0; x < width; x++) {
                all.append(" | ").append(at(rows, x, y));
                all.append(' ').append(rows.alpha(x, y, 3)).append(' ').append(rows.alpha(x, y, 4));
                all.append(", ").append(paperAt(rows, x, y));
            }
        }
        return all.toString();
    }
}
