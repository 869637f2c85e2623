/**
 * What the other tests do not quote of the document, from its first line on: the sums with the numbers
 * worked out by hand, and what must be alike whatever the numbers are.
 */
public final class DocumentTest {
    private static final Class<ArrayIndexOutOfBoundsException> INDEX = ArrayIndexOutOfBoundsException.class;
    private static final int[][] COLOURS = {
        {0, 0, 0}, {255, 255, 255}, {255, 0, 0}, {0, 255, 0}, {0, 0, 255}, {100, 150, 200}, {200, 30, 90}, {127, 128, 1},
        {254, 1, 255}, {60, 60, 61},
    };

    public static void main(String[] args) {
        sixteenWaysToBlend();
        allInBytes();
        modesOfColoursTogether();
        eachPointHasItsOwnBackdrop();
        putWithoutKnockingOut();
        putKnockingOut();
        endIsAnElement();
        markIsAnElement();
        noSuchPointOrBand();
        toldOfEach();
        Check.end();
    }

    private static int packed(int[] bands) {
        return Look.packed(bands[0], bands[1], bands[2]);
    }

    private static int packedAt(BlendRows rows) {
        return Look.packed(rows.point(0, 0, 0), rows.point(0, 0, 1), rows.point(0, 0, 2));
    }

    private static void paint(BlendRows rows, int[] bands) {
        Look.paint(rows, bands[0], bands[1], bands[2]);
    }

    private static void sixteenWaysToBlend() {
        Check.sentence("sixteen ways to blend");
        for (int mode = 0; mode <= 15; mode++) {
            for (int[] below : COLOURS) {
                for (int[] top : COLOURS) {
                    BlendRows rows = new BlendRows(1, 1);
                    paint(rows, below);
                    rows.mark(0, 255, 255);
                    paint(rows, top);
                    rows.mark(mode, 255, 255);
                    Check.due("a whole mark on a whole page, mode " + mode, packedAt(rows),
                            rows.blend(mode, packed(below), packed(top)));
                }
            }
        }
        Check.sentence("BLENDING of bytes b (below) and s (on top), by MODES");
        BlendRows rows = new BlendRows(1, 1);
        for (int mode = 0; mode <= 11; mode++) {
            int want = Look.packed(rows.separable(mode, 100, 200), rows.separable(mode, 200, 150),
                    rows.separable(mode, 30, 31));
            Check.due("each band by itself, mode " + mode,
                    rows.blend(mode, Look.packed(100, 200, 30), Look.packed(200, 150, 31)), want);
        }
    }

    private static void allInBytes() {
        Check.sentence("all in bytes");
        for (int mode = 0; mode <= 15; mode++) {
            BlendRows rows = new BlendRows(1, 1);
            boolean bytes = true;
            for (int i = 0; i < 25; i++) {
                paint(rows, COLOURS[(i * 7 + mode) % COLOURS.length]);
                rows.group(i % 2 == 0, i % 3 == 0);
                rows.mark((mode + i) % 16, 37 * i % 256, 91 * i % 256);
                bytes &= allBytes(rows);
                rows.end(mode, 53 * i % 256);
                bytes &= allBytes(rows);
            }
            Check.due("each answer a byte, mode " + mode, bytes, true);
        }
    }

    private static boolean allBytes(BlendRows rows) {
        boolean all = true;
        for (int i = 0; i < 3; i++) {
            all &= rows.point(0, 0, i) >>> 8 == 0 && rows.alpha(0, 0, i) >>> 8 == 0;
        }
        return all && rows.paper(0, 0, 1) >>> 8 == 0;
    }

    private static void modesOfColoursTogether() {
        Check.sentence("12 (hue) SETLUM(SETSAT(s, SAT(b)), LUM(b))");
        BlendRows rows = new BlendRows(1, 1);
        int b = Look.packed(100, 150, 200);
        int s = Look.packed(200, 30, 90);
        // LUM(b) = 140, SAT(b) = 100; SETSAT(s, 100) = 100 0 35 (6000 / 170), LUM 33: 107 are added.
        Check.due("hue", rows.blend(12, b, s), Look.packed(207, 107, 142));
        Check.sentence("13 (saturation) SETLUM(SETSAT(b, SAT(s)), LUM(b))");
        // SAT(s) = 170: 0 85 170, LUM 68: 72 are added.
        Check.due("saturation", rows.blend(13, b, s), Look.packed(72, 157, 242));
        Check.sentence("14 (colour) SETLUM(s, LUM(b))");
        // LUM(s) = (6000 + 1770 + 990) / 100 = 87: 53 are added.
        Check.due("colour", rows.blend(14, b, s), Look.packed(253, 83, 143));
        Check.sentence("15 (lightness) SETLUM(b, LUM(s)).");
        Check.due("lightness", rows.blend(15, b, s), Look.packed(47, 97, 147));
        for (int[] one : COLOURS) {
            for (int[] other : COLOURS) {
                BlendRows pair = new BlendRows(1, 1);
                Check.due("15 is 14 exchanged", pair.blend(15, packed(one), packed(other)),
                        pair.blend(14, packed(other), packed(one)));
            }
            for (int mode = 12; mode <= 15; mode++) {
                Check.due("a colour with itself", new BlendRows(1, 1).blend(mode, packed(one), packed(one)), packed(one));
            }
        }
    }

    private static void eachPointHasItsOwnBackdrop() {
        Check.sentence("A GROUP has at each point a BACKDROP (colour C0, ALPHA A0), its COLOUR");
        BlendRows rows = new BlendRows(2, 2);
        for (int at = 0; at < 4; at++) {
            rows.fill(0, 0, 1, 1, 0);
            rows.cover(at % 2, at / 2, 255);
            Look.paint(rows, 50 + at);
            rows.mark(0, 255, 100 + at);
        }
        rows.group(false, true);
        rows.fill(0, 0, 1, 1, 255);
        Look.paint(rows, 0);
        rows.mark(0, 255, 255);
        rows.mark(0, 255, 0);
        for (int at = 0; at < 4; at++) {
            Check.due("knocked out down to the backdrop of point " + at, Look.at(rows, at % 2, at / 2),
                    (50 + at) + " " + (50 + at) + " " + (50 + at) + ", 0 255 " + (100 + at));
        }
    }

    private static void putWithoutKnockingOut() {
        Check.sentence("+ a ((255 - B) s + B BLEND(b, s))");
        BlendRows rows = new BlendRows(1, 1);
        Look.paint(rows, 200);
        rows.mark(0, 255, 128);
        Look.paint(rows, 50);
        rows.mark(10, 255, 255);
        // 200 less 50 is 150: (127 * 50 + 128 * 150 + 127) / 255 = 100.6
        Check.due("B of 128", Look.at(rows, 0, 0), "100 100 100, 255 255 255");
    }

    private static void putKnockingOut() {
        Check.sentence("With c its colour and A' its A before: [..] A follows");
        BlendRows rows = new BlendRows(1, 1);
        Look.paint(rows, 100);
        rows.mark(0, 255, 128);
        rows.group(false, true);
        Look.paint(rows, 200);
        rows.mark(0, 255, 255);
        Check.due("A of 255 over a backdrop of 128", Look.at(rows, 0, 0), "200 200 200, 255 255 255");
        Look.paint(rows, 40);
        rows.mark(0, 128, 128);
        // f = 128, a = 64; G = (127 * 255 + 255 * 64 + 127) / 255 = 191.5; A = 128 + 191 - 96 = 223;
        // (127 * 255 * 200 + 64 * 128 * 100 + 64 * 255 * 40 + 28432) / 56865 = 7977432 / 56865 = 140.3
        Check.due("c and A' are those before", Look.at(rows, 0, 0), "140 140 140, 191 255 223");
    }

    /** One point in a group of that kind (0 .. 3), half seen through, over a page that is too. */
    private static BlendRows halfCovered(int kind, int mode) {
        BlendRows rows = new BlendRows(1, 1);
        paint(rows, COLOURS[5]);
        rows.mark(0, 200, 128);
        rows.group(kind % 2 == 0, kind / 2 == 0);
        paint(rows, COLOURS[6]);
        rows.mark(mode, 150, 180);
        paint(rows, COLOURS[7]);
        return rows;
    }

    private static void endIsAnElement() {
        Check.sentence("It is put on the group around it as an element, in a mode");
        int[] some = {0, 1, 2, 127, 128, 200, 254, 255};
        for (int mode = 0; mode <= 15; mode++) {
            for (int shape : some) {
                for (int opacity : some) {
                    BlendRows marked = halfCovered((mode + shape) % 4, mode);
                    marked.mark(mode, shape, opacity);
                    BlendRows byMark = halfCovered((mode + shape) % 4, mode);
                    byMark.group(true, false);
                    byMark.mark(0, shape, opacity);
                    byMark.end(mode, 255);
                    BlendRows byEnd = halfCovered((mode + shape) % 4, mode);
                    byEnd.group(true, true);
                    byEnd.mark(0, shape, 255);
                    byEnd.end(mode, opacity);
                    String what = "one mark alone in a group, mode " + mode + ", " + shape + ", " + opacity;
                    Check.due(what, Look.at(byMark, 0, 0), Look.at(marked, 0, 0));
                    Check.due(what + " by end", Look.at(byEnd, 0, 0), Look.at(marked, 0, 0));
                }
            }
        }
    }

    private static void markIsAnElement() {
        Check.sentence("A MARK is an element at each point: the COLOUR that is set");
        BlendRows rows = new BlendRows(12, 12);
        Look.paint(rows, 1, 2, 3);
        Check.due("at each point", rows.mark(0, 255, 9), 144);
        for (int at = 0; at < 12; at++) {
            Check.due("point " + at, Look.at(rows, at, 11 - at), "1 2 3, 9 255 9");
        }
        Look.paint(rows, 7, 7, 7);
        Check.due("a colour that is set later changes no mark", Look.colourAt(rows, 3, 3), "1 2 3");
    }

    private static void noSuchPointOrBand() {
        Check.sentence("ArrayIndexOutOfBoundsException: there is no such point, or band.");
        BlendRows rows = new BlendRows(12, 1);
        Check.refused("a point of the other side", () -> rows.point(0, 11, 0), INDEX);
        Check.refused("a point right of the page", () -> rows.paper(12, 0, 0), INDEX);
        Check.refused("a band", () -> rows.paper(11, 0, 3), INDEX);
        Check.refused("neither", () -> rows.point(-1, -1, -1), INDEX);
        Check.due("the last point, the last band", rows.paper(11, 0, 2), 255);
    }

    private static void toldOfEach() {
        Check.promise(2, "The width (what = 0), the height (1), depth (2), bound (3)");
        BlendRows rows = new BlendRows(7, 5);
        rows.bound(4);
        rows.group(true, false);
        rows.group(false, false);
        Check.due("told", Look.toldAll(rows), "7 5 3 4 0 0");
    }
}
