/** Each sentence of the document's "Terms" that names a boundary case, with numbers worked out by hand. */
public final class BoundaryTermsTest {
    private static final Class<IllegalArgumentException> ARGUMENT = IllegalArgumentException.class;
    private static final Class<IllegalStateException> STATE = IllegalStateException.class;
    private static final Class<ArrayIndexOutOfBoundsException> INDEX = ArrayIndexOutOfBoundsException.class;

    public static void main(String[] args) {
        atMost512Calls();
        pointsOfThePage();
        bytes();
        mulRounds();
        bandsOfAColour();
        lumGoesDownward();
        plainModes();
        mode3IsMode8Exchanged();
        mode6Dodges();
        mode7Burns();
        mode8Turns();
        mode9Softens();
        mode11();
        satOfGreys();
        setSatScales();
        setLumStaysWithin();
        setLumOfNegativeBands();
        setLumBelowZero();
        setLumAboveAll();
        newGroupIsEmpty();
        alphaWithTheBackdrop();
        pageNeverEnds();
        isolatedOrNot();
        putOnAGroupThatKnocksOut();
        putMixesAlpha();
        putMixesShape();
        putOnNothing();
        putIsAByteAtMost();
        putWithoutShape();
        resultLeavesTheBackdropOut();
        resultGoesTowardZero();
        resultIsAByte();
        resultWithoutAlpha();
        endedAlphaIsWithinItsShape();
        markShapeAndAlpha();
        inksThatStay();
        inksThatStayOfGroups();
        maskLeaves();
        depthOfThePage();
        deeperThanTheBound();
        begunWithinAFlatOne();
        flatOnesDoNothingElse();
        Check.end();
    }

    private static void separable(int mode, int b, int s, int want) {
        String what = "mode " + mode + " of " + b + " and " + s;
        Check.due(what, new BlendRows(1, 1).separable(mode, b, s), want);
    }

    private static void blend(int mode, int b, int s, int want) {
        String what = "mode " + mode + " of " + Integer.toHexString(b) + " and " + Integer.toHexString(s);
        Check.due(what, new BlendRows(1, 1).blend(mode, b, s), want);
    }

    private static void atMost512Calls() {
        Check.sentence("An object is used for at most 512 calls after it has been made");
        BlendRows marked = new BlendRows(2, 1);
        for (int call = 1; call <= 511; call++) {
            marked.mark(0, 255, 255);
        }
        Check.due("the 512th call, told(5)", marked.told(5), 511);
        BlendRows grouped = new BlendRows(1, 1);
        for (int call = 1; call <= 510; call += 2) {
            grouped.group(true, false);
            grouped.end(0, 255);
        }
        Check.due("call 511, told(5)", grouped.told(5), 255);
        Check.due("the 512th call, group", grouped.group(true, true), 2);
    }

    private static void pointsOfThePage() {
        Check.sentence("THE PAGE has points (x, y), x from 0 on below WIDTH, y below HEIGHT.");
        BlendRows rows = new BlendRows(5, 3);
        for (int y = 0; y < 3; y++) {
            for (int x = 0; x < 5; x++) {
                rows.cover(x, y, 10 * y + x);
            }
        }
        Check.due("each point is one of its own", Look.covers(rows), "0 1 2 3 4 / 10 11 12 13 14 / 20 21 22 23 24 / ");
        rows.mark(0, 255, 255);
        Check.due("the first point", Look.alphasAt(rows, 0, 0), "0 0 0");
        Check.due("the last point", Look.alphasAt(rows, 4, 2), "24 24 24");
        Check.refused("left of a row, where the row before ends", () -> rows.alpha(-1, 1, 0), INDEX);
        Check.refused("right of a row, where the next one begins", () -> rows.alpha(5, 0, 0), INDEX);
        Check.refused("right of the last row", () -> rows.alpha(5, 2, 0), INDEX);
        Check.refused("above", () -> rows.alpha(0, -1, 0), INDEX);
        Check.refused("below", () -> rows.alpha(0, 3, 0), INDEX);
        Check.refused("above, but a whole row to the right", () -> rows.alpha(5, -1, 0), INDEX);
        Check.refused("below, but a whole row to the left", () -> rows.alpha(-5, 1, 0), INDEX);
        // 858993460 rows of five are 2^32 + 4: the int that wraps around is a point's.
        Check.refused("a row whose place wraps around", () -> rows.alpha(0, 858993460, 0), INDEX);
    }

    private static void bytes() {
        Check.sentence("BYTES are 0 .. 255; 255 stands for one.");
        for (int v = 0; v <= 255; v++) {
            separable(1, 255, v, v);
            separable(1, v, 255, v);
            separable(1, 0, v, 0);
        }
        BlendRows rows = new BlendRows(1, 1);
        Check.refused("a byte too small", () -> rows.separable(0, -1, 0), ARGUMENT);
        Check.refused("a byte too large", () -> rows.separable(0, 0, 256), ARGUMENT);
    }

    private static void mulRounds() {
        Check.sentence("MUL(a, b) is (a b + 127) / 255, all quotients downward.");
        separable(1, 1, 127, 0);
        separable(1, 1, 128, 1);
        separable(1, 127, 1, 0);
        separable(1, 128, 1, 1);
        // 3 * 127 = 381 = 255 + 126, 3 * 128 = 384 = 255 + 129; 2 * 191 = 382 = 255 + 127
        separable(1, 3, 127, 1);
        separable(1, 3, 128, 2);
        separable(1, 2, 191, 1);
        separable(1, 2, 192, 2);
        separable(1, 254, 254, 253);
        separable(1, 255, 255, 255);
    }

    private static void bandsOfAColour() {
        Check.sentence("A COLOUR has three BANDS, 0 .. 2.");
        BlendRows rows = new BlendRows(1, 1);
        Look.paint(rows, 1, 2, 3);
        rows.mark(0, 255, 255);
        Check.due("three bands", Look.colourAt(rows, 0, 0), "1 2 3");
        Check.refused("band -1", () -> rows.point(0, 0, -1), INDEX);
        Check.refused("band 3", () -> rows.point(0, 0, 3), INDEX);
        // Eight bits a band: a shift by 32 is one by 0.
        Check.refused("band 4", () -> rows.point(0, 0, 4), INDEX);
    }

    private static void lumGoesDownward() {
        Check.sentence("LUM of a colour is (30 r + 59 g + 11 b) / 100.");
        // Mode 15 makes a black the grey that has the LUM of s.
        int[][] lums = {
            {0, 0, 0, 0}, {3, 0, 0, 0}, {4, 0, 0, 1}, {0, 1, 0, 0}, {0, 2, 0, 1}, {0, 0, 9, 0}, {0, 0, 10, 1},
            {1, 1, 0, 0}, {1, 1, 1, 1}, {255, 0, 0, 76}, {0, 255, 0, 150}, {0, 0, 255, 28},
            {255, 255, 254, 254}, {255, 255, 255, 255},
        };
        for (int[] lum : lums) {
            blend(15, 0, Look.packed(lum[0], lum[1], lum[2]), Look.packed(lum[3]));
        }
    }

    private static void plainModes() {
        Check.sentence("0 s. 1 MUL(b, s). 2 b + s - MUL(b, s). [..] 4 the lesser, 5 the greater one. [..] 10 the"
                + " greater less the lesser.");
        for (int[] pair : new int[][] {{0, 0}, {0, 255}, {255, 0}, {255, 255}, {254, 255}, {1, 0}}) {
            int b = pair[0];
            int s = pair[1];
            separable(0, b, s, s);
            separable(1, b, s, b == 255 ? s : s == 255 ? b : 0);
            separable(2, b, s, b == 255 || s == 255 ? 255 : b + s);
            separable(4, b, s, b < s ? b : s);
            separable(5, b, s, b < s ? s : b);
            separable(10, b, s, b < s ? s - b : b - s);
        }
        // 1 * 127 is rounded to 0, 1 * 128 to 1.
        separable(2, 1, 127, 128);
        separable(2, 1, 128, 128);
    }

    private static void mode3IsMode8Exchanged() {
        Check.sentence("3 mode 8 with b and s exchanged.");
        // The turn is at b = 127: MUL(100, 254) = 100; 100 + 1 - MUL(100, 1) = 101, 1 + 1 - 0 = 2
        separable(3, 127, 100, 100);
        separable(3, 128, 100, 101);
        separable(3, 127, 1, 1);
        separable(3, 128, 1, 2);
        separable(3, 0, 255, 0);
        separable(3, 255, 0, 255);
        for (int b = 0; b <= 255; b += 15) {
            for (int s = 0; s <= 255; s += 17) {
                separable(3, b, s, new BlendRows(1, 1).separable(8, s, b));
            }
        }
    }

    private static void mode6Dodges() {
        Check.sentence("6: 0 for b = 0; otherwise 255 where b + s >= 255; otherwise (255 b + (255 - s) / 2) / (255 -"
                + " s).");
        separable(6, 0, 255, 0);
        separable(6, 0, 254, 0);
        separable(6, 0, 0, 0);
        separable(6, 1, 255, 255);
        separable(6, 1, 254, 255);
        // (255 + 1) / 2
        separable(6, 1, 253, 128);
        separable(6, 255, 0, 255);
        separable(6, 254, 0, 254);
        separable(6, 254, 1, 255);
        // 255 * 253 + 127 = 64642, / 254 = 254.49
        separable(6, 253, 1, 254);
        // (255 + 50) / 101, (255 * 2 + 50) / 101, (255 * 100 + 50) / 101
        separable(6, 1, 154, 3);
        separable(6, 2, 154, 5);
        separable(6, 100, 154, 252);
        separable(6, 101, 154, 255);
        separable(6, 102, 154, 255);
        separable(6, 2, 254, 255);
        separable(6, 255, 255, 255);
    }

    private static void mode7Burns() {
        Check.sentence("7: 255 for b = 255; otherwise 0 where b + s <= 255; otherwise 255 - (255 (255 - b) + s / 2) /"
                + " s.");
        separable(7, 255, 0, 255);
        separable(7, 255, 1, 255);
        separable(7, 255, 255, 255);
        separable(7, 254, 0, 0);
        separable(7, 254, 1, 0);
        // 255 - (255 + 1) / 2
        separable(7, 254, 2, 127);
        // 255 - (255 + 1) / 3
        separable(7, 254, 3, 170);
        separable(7, 0, 255, 0);
        separable(7, 1, 254, 0);
        // 255 - (255 * 254 + 127) / 255
        separable(7, 1, 255, 1);
        // 255 - (255 * 99 + 50) / 100 = 255 - 252
        separable(7, 155, 100, 0);
        separable(7, 156, 100, 3);
        separable(7, 154, 100, 0);
        separable(7, 0, 0, 0);
    }

    private static void mode8Turns() {
        Check.sentence("8: for s <= 127 MUL(b, 2 s), otherwise mode 2 of b and 2 s - 255.");
        // (100 * 254 + 127) / 255 = 100.1, 100 + 1 - 0
        separable(8, 100, 127, 100);
        separable(8, 100, 128, 101);
        // (200 * 254 + 127) / 255 = 199.7, 200 + 1 - (200 + 127) / 255
        separable(8, 200, 127, 199);
        separable(8, 200, 128, 200);
        separable(8, 255, 127, 254);
        separable(8, 0, 128, 1);
        separable(8, 255, 0, 0);
        separable(8, 0, 255, 255);
    }

    private static void mode9Softens() {
        Check.sentence("9: for s <= 127 b - ((255 - 2 s) MUL(b, 255 - b) + 127) / 255; otherwise b + ((2 s - 255) (D - b) +"
                + " 127) / 255");
        // MUL(100, 155) = 61: less (61 + 127) / 255 = 0 at 127, (3 * 61 + 127) / 255 = 1 at 126, 61 at 0
        separable(9, 100, 127, 100);
        separable(9, 100, 126, 99);
        separable(9, 100, 0, 39);
        // less (253 * 61 + 127) / 255 = 61.02 at 1, (227 * 61 + 127) / 255 = 54.8 at 14
        separable(9, 100, 1, 39);
        separable(9, 100, 14, 46);
        // D = 159: (59 + 127) / 255 = 0 more at 128, (3 * 59 + 127) / 255 = 1 at 129
        separable(9, 100, 128, 100);
        separable(9, 100, 129, 101);
        // (15 * 59 + 127) / 255 = 3.97
        separable(9, 100, 135, 103);
        for (int s : new int[] {0, 127, 128, 255}) {
            separable(9, 0, s, 0);
            separable(9, 255, s, 255);
        }
        Check.sentence("D being the greatest number whose square is not above 255 b.");
        // With s = 255 the answer is D itself: 15 * 15 = 225, 22 * 22 = 484, 254 * 254 = 64516, 255 * 254 = 64770
        separable(9, 1, 255, 15);
        separable(9, 2, 255, 22);
        separable(9, 254, 255, 254);
        separable(9, 253, 255, 253);
        separable(9, 255, 255, 255);
        for (int b = 0; b <= 255; b++) {
            int d = new BlendRows(1, 1).separable(9, b, 255);
            Check.due("D of " + b, d * d <= 255 * b && (d + 1) * (d + 1) > 255 * b, true);
        }
    }

    private static void mode11() {
        Check.sentence("11 b + s - 2 MUL(b, s), 0 at least.");
        separable(11, 255, 255, 0);
        separable(11, 0, 0, 0);
        separable(11, 255, 0, 255);
        separable(11, 0, 255, 255);
        // 2 - 2 * 0, 129 - 2 * 1, 128 - 2 * 0
        separable(11, 1, 1, 2);
        separable(11, 1, 128, 127);
        separable(11, 1, 127, 128);
        BlendRows rows = new BlendRows(1, 1);
        int least = 255;
        for (int s = 0; s <= 255; s++) {
            least = Math.min(least, rows.separable(11, 255, s));
        }
        Check.due("the least one with 255", least, 0);
    }

    private static void satOfGreys() {
        Check.sentence("SETSAT(c, v): where SAT(c) is 0 all bands are 0");
        int dull = Look.packed(100, 150, 200);
        // LUM(dull) = 140, and black is moved to it.
        blend(12, dull, Look.packed(77), Look.packed(140));
        blend(12, dull, 0, Look.packed(140));
        blend(12, dull, 16777215, Look.packed(140));
        blend(13, Look.packed(77), Look.packed(255, 0, 0), Look.packed(77));
        blend(13, 0, Look.packed(255, 0, 0), 0);
        blend(13, 16777215, Look.packed(255, 0, 0), 16777215);
        Check.sentence("SAT is the greatest band less the least.");
        // A SAT of 0 leaves nothing but LUM; one of 1 leaves the greatest band: 1 0 0 has LUM 0.
        blend(12, Look.packed(50), Look.packed(255, 0, 0), Look.packed(50));
        blend(12, Look.packed(51, 50, 50), Look.packed(255, 0, 0), Look.packed(51, 50, 50));
        blend(12, Look.packed(50, 50, 51), Look.packed(255, 0, 0), Look.packed(51, 50, 50));
        // SETSAT(51 50 50, 255) = 255 0 0, LUM 76, 26 less: 229 -26 -26 with L = 50: 50 + 179 * 50 / 76 = 167
        blend(13, Look.packed(51, 50, 50), Look.packed(255, 0, 0), Look.packed(167, 0, 0));
    }

    private static void setSatScales() {
        Check.sentence("otherwise each band is (band less the least) v / SAT(c).");
        // SETSAT(10 15 20, 255) = 0 127 255, LUM 102; b's LUM is 14: -88 39 167 with L = 14, n = -88:
        // 14 + 25 * 14 / 102 = 17, 14 + 153 * 14 / 102 = 35
        blend(13, Look.packed(10, 15, 20), Look.packed(0, 0, 255), Look.packed(0, 17, 35));
        // SETSAT(0 1 3, 1) = 0 0 1 (1 / 3 downward), LUM 0, and LUM(0 1 3) = 92 / 100 = 0
        blend(13, Look.packed(0, 1, 3), Look.packed(1, 0, 0), Look.packed(0, 0, 1));
        // SETSAT(0 2 3, 1) = 0 0 1: 2 / 3 downward too
        blend(13, Look.packed(0, 2, 3), Look.packed(1, 0, 0), Look.packed(1, 1, 2));
        // Whichever band is the least, or the greatest: SETSAT makes 0, 45 and 60 of 30, 90 and 110.
        // (41 86 101 by hand: 0 45 60 has LUM 33, b has 74; the other five likewise, by a script.)
        int sixty = Look.packed(250, 200, 190);
        blend(13, Look.packed(30, 90, 110), sixty, Look.packed(41, 86, 101));
        blend(13, Look.packed(30, 110, 90), sixty, Look.packed(43, 103, 88));
        blend(13, Look.packed(90, 30, 110), sixty, Look.packed(81, 36, 96));
        blend(13, Look.packed(90, 110, 30), sixty, Look.packed(92, 107, 47));
        blend(13, Look.packed(110, 30, 90), sixty, Look.packed(98, 38, 83));
        blend(13, Look.packed(110, 90, 30), sixty, Look.packed(105, 90, 45));
        // And it makes 80, 53 and 0 of 250, 200 and 100 (SAT 150), as b's SAT is 80.
        int orange = Look.packed(250, 200, 100);
        blend(12, Look.packed(30, 90, 110), orange, Look.packed(99, 72, 19));
        blend(12, Look.packed(90, 30, 110), orange, Look.packed(81, 54, 1));
        blend(12, Look.packed(110, 90, 30), orange, Look.packed(114, 87, 34));
    }

    private static void setLumStaysWithin() {
        Check.sentence("SETLUM(c, l): each band gets l - LUM(c) added");
        blend(14, Look.packed(255), Look.packed(7), Look.packed(255));
        blend(14, 0, Look.packed(255), 0);
        blend(14, Look.packed(128), Look.packed(128), Look.packed(128));
        // LUM(100 150 200) = 140: 100 more or less is the edge of a byte.
        blend(14, Look.packed(40), Look.packed(100, 150, 200), Look.packed(0, 50, 100));
        blend(14, Look.packed(195), Look.packed(100, 150, 200), Look.packed(155, 205, 255));
        blend(14, Look.packed(41), Look.packed(100, 150, 200), Look.packed(1, 51, 101));
        blend(14, Look.packed(194), Look.packed(100, 150, 200), Look.packed(154, 204, 254));
    }

    private static void setLumOfNegativeBands() {
        Check.sentence("L being the LUM of that (whose quotient may be of a negative number: downward too)");
        // LUM(9 0 0) = 2.7 downward: 7 -2 -2 has 210 - 118 - 22 = 70, L = 0, and all of it becomes 0.
        blend(14, 0, Look.packed(9, 0, 0), 0);
        // LUM(0 1 9) = 1.58: -1 0 8 has -30 + 88 = 58, L = 0
        blend(14, 0, Look.packed(0, 1, 9), 0);
        // 8 -1 -1 has 170, L = 1: 1 + 7 / 2 = 4, 1 - 2 / 2 = 0
        blend(14, Look.packed(1), Look.packed(9, 0, 0), Look.packed(4, 0, 0));
        // LUM(0 0 9) = 0.99: nothing is added, and nothing is below 0.
        blend(14, 0, Look.packed(0, 0, 9), Look.packed(0, 0, 9));
    }

    private static void setLumBelowZero() {
        Check.sentence("where the least band n is below 0: each band c becomes L + (c - L) L / (L - n)");
        // -1 49 99, L = 39: 39 - 40 * 39 / 40, 39 + 10 * 39 / 40 = 48, 39 + 60 * 39 / 40 = 97
        blend(14, Look.packed(39), Look.packed(100, 150, 200), Look.packed(0, 48, 97));
        // LUM(255 0 0) = 76: 179 -76 -76 with L = 0
        blend(14, 0, Look.packed(255, 0, 0), 0);
        // LUM(0 0 255) = 28: -27 -27 228 with L = 1: 1 + 227 / 28 = 9
        blend(14, Look.packed(1), Look.packed(0, 0, 255), Look.packed(0, 0, 9));
        // LUM(0 60 255) = 63, 43 less: -43 17 212 with L = 20: 20 - 3 * 20 / 63 downward is 19, 20 + 192 * 20 / 63 = 80
        blend(14, Look.packed(20), Look.packed(0, 60, 255), Look.packed(0, 19, 80));
    }

    private static void setLumAboveAll() {
        Check.sentence("and where the greatest one m is above 255 (before that): L + (c - L) (255 - L) / (m - L)");
        // 156 206 256, L = 196: 196 - 40 * 59 / 60 = 156.7 downward, 196 + 10 * 59 / 60 = 205, 255
        blend(14, Look.packed(196), Look.packed(100, 150, 200), Look.packed(156, 205, 255));
        // LUM(255 0 0) = 76: 434 179 179 with L = 255
        blend(14, Look.packed(255), Look.packed(255, 0, 0), Look.packed(255));
        // 433 178 178 with L = 254: 254 - 76 / 179 downward is 253, 254 + 179 / 179
        blend(14, Look.packed(254), Look.packed(255, 0, 0), Look.packed(255, 253, 253));
        Check.sentence("at the end what is below 0 is 0, above 255 255.");
        int[] edges = {0, 1, 127, 128, 254, 255};
        BlendRows rows = new BlendRows(1, 1);
        for (int i = 0; i < 500; i++) {
            int top = Look.packed(edges[i % 6], edges[i / 6 % 6], edges[i / 36 % 6]);
            int mixed = rows.blend(12 + i % 4, Look.packed(edges[i / 3 % 6], edges[i / 7 % 6], edges[i % 5]), top);
            Check.due("all of it in three bytes: " + mixed, mixed >>> 24, 0);
        }
    }

    private static void newGroupIsEmpty() {
        Check.sentence("its own ALPHA G, its SHAPE F (both 0 at first)");
        BlendRows rows = Look.grey(50);
        rows.group(false, false);
        Check.due("a new group on what is wholly covered", Look.alphasAt(rows, 0, 0), "0 0 255");
        rows.mark(0, 255, 255);
        rows.end(0, 255);
        rows.group(true, true);
        Check.due("a new group where another one was", Look.alphasAt(rows, 0, 0), "0 0 0");
        Check.sentence("At first its colour is C0.");
        Check.due("isolated, where another one was", Look.colourAt(rows, 0, 0), "0 0 0");
        rows.end(0, 255);
        rows.group(false, true);
        Check.due("not isolated", Look.colourAt(rows, 0, 0), "50 50 50");
    }

    private static void alphaWithTheBackdrop() {
        Check.sentence("its alpha with the backdrop, A = A0 + G - MUL(A0, G).");
        int[][] alphas = {
            {0, 0, 0}, {0, 255, 255}, {255, 0, 255}, {255, 255, 255}, {255, 1, 255}, {1, 255, 255}, {1, 1, 2},
            {128, 128, 192}, {1, 127, 128}, {1, 128, 128}, {254, 254, 255},
        };
        for (int[] one : alphas) {
            BlendRows rows = new BlendRows(1, 1);
            rows.mark(0, 255, one[0]);
            rows.group(false, false);
            rows.mark(0, 255, one[1]);
            Check.due("A of " + one[0] + " and " + one[1], rows.alpha(0, 0, 2), one[2]);
        }
    }

    private static void pageNeverEnds() {
        Check.sentence("The page itself is a group, isolated, not knocking out, that never ends.");
        BlendRows rows = Look.grey(200);
        Look.paint(rows, 100);
        rows.mark(0, 255, 128);
        // (127 * 255 * 200 + 128 * 255 * 100 + 32512) / 65025
        Check.due("it does not knock out", Look.colourAt(rows, 0, 0), "150 150 150");
        Check.due("it is isolated: A is G", Look.alphasAt(rows, 0, 0), "255 255 255");
        Check.refused("it never ends", () -> rows.end(0, 255), STATE);
        Check.refused("nor as a mask", () -> rows.mask(2, true), STATE);
        rows.group(true, false);
        rows.end(0, 255);
        Check.refused("it never ends after a group", () -> rows.end(0, 255), STATE);
        rows.bound(1);
        rows.group(true, false);
        rows.end(0, 255);
        Check.refused("it never ends after a flat group", () -> rows.end(0, 255), STATE);
        Check.due("it is there", Look.toldAll(rows), "1 1 1 1 0 3");
    }

    private static void isolatedOrNot() {
        Check.sentence("A new group that is ISOLATED has C0 = 0 in all bands and A0 = 0;"
                + " another one has the colour and alpha A of the group around it at that time.");
        BlendRows rows = new BlendRows(1, 1);
        Look.paint(rows, 10, 20, 30);
        rows.mark(0, 255, 128);
        rows.group(true, false);
        Check.due("isolated", Look.at(rows, 0, 0), "0 0 0, 0 0 0");
        rows.end(0, 255);
        rows.group(false, false);
        Check.due("not isolated", Look.at(rows, 0, 0), "10 20 30, 0 0 128");
        rows.mark(0, 255, 128);
        rows.group(false, false);
        Check.due("the alpha A, not G, of the group around it", Look.alphasAt(rows, 0, 0), "0 0 192");
        Look.paint(rows, 40, 50, 60);
        rows.mark(0, 255, 255);
        rows.end(0, 255);
        rows.group(false, true);
        Check.due("the colour at that time", Look.colourAt(rows, 0, 0), "40 50 60");
        rows.group(true, false);
        rows.group(false, false);
        Check.due("not isolated in one that is", Look.at(rows, 0, 0), "0 0 0, 0 0 0");
    }

    private static void putOnAGroupThatKnocksOut() {
        Check.sentence("Below is, for a group that KNOCKS OUT, the backdrop (b = C0, B = A0, H = 0);"
                + " otherwise b = its colour, B = A, H = G.");
        BlendRows knocking = Look.grey(100);
        knocking.group(false, true);
        Look.paint(knocking, 255);
        knocking.mark(0, 255, 255);
        Look.paint(knocking, 100);
        knocking.mark(1, 255, 255);
        Check.due("it meets the backdrop", Look.colourAt(knocking, 0, 0), "39 39 39");
        knocking.mark(1, 255, 0);
        Check.due("shape alone brings the backdrop back", Look.colourAt(knocking, 0, 0), "100 100 100");
        Check.due("shape alone takes G away", Look.alphasAt(knocking, 0, 0), "0 255 255");
        BlendRows other = Look.grey(100);
        other.group(false, false);
        Look.paint(other, 255);
        other.mark(0, 255, 255);
        Look.paint(other, 100);
        other.mark(1, 255, 255);
        Check.due("it meets what is there", Look.colourAt(other, 0, 0), "100 100 100");
        other.mark(1, 255, 0);
        Check.due("shape alone changes no colour", Look.colourAt(other, 0, 0), "100 100 100");
        Check.due("shape alone leaves G", Look.alphasAt(other, 0, 0), "255 255 255");
    }

    private static void putMixesAlpha() {
        Check.sentence("G becomes ((255 - f) G + (f - a) H + 255 a + 127) / 255");
        int[][] alphas = {{0, 0, 0}, {0, 1, 1}, {1, 1, 2}, {255, 0, 255}, {255, 1, 255}, {254, 1, 254},
            {254, 127, 254}, {254, 128, 255}, {1, 127, 128}, {1, 128, 128}, {254, 255, 255}};
        for (int[] one : alphas) {
            BlendRows rows = new BlendRows(1, 1);
            rows.mark(0, 255, one[0]);
            rows.mark(0, 255, one[1]);
            Check.due("G of " + one[0] + " then " + one[1], rows.alpha(0, 0, 0), one[2]);
        }
        // (255 - f) G + 255 a + 127: 254 * 255 + 127, 127 * 255 + 127, 254 * 1 + 127 = 381, 127 * 1 + 127 = 254
        int[][] knockedOut = {{255, 1, 0, 254}, {255, 128, 0, 127}, {255, 255, 0, 0}, {1, 1, 0, 1}, {1, 128, 0, 0},
            {1, 127, 0, 1},
            {255, 1, 255, 255}, {255, 255, 1, 1}};
        for (int[] one : knockedOut) {
            BlendRows rows = new BlendRows(1, 1);
            rows.group(true, true);
            rows.mark(0, 255, one[0]);
            rows.mark(0, one[1], one[2]);
            Check.due("G of " + one[0] + " knocked out by " + one[1] + ", " + one[2], rows.alpha(0, 0, 0), one[3]);
        }
    }

    private static void putMixesShape() {
        Check.sentence("F becomes F + f - MUL(F, f)");
        int[][] shapes = {{0, 0, 0}, {0, 255, 255}, {255, 0, 255}, {255, 255, 255}, {1, 1, 2}, {1, 127, 128},
            {1, 128, 128},
            {128, 128, 192}};
        for (int[] one : shapes) {
            for (int opacity = 0; opacity <= 255; opacity += 255) {
                BlendRows rows = new BlendRows(1, 1);
                rows.mark(0, one[0], opacity);
                rows.mark(0, one[1], opacity);
                Check.due("F of " + one[0] + " and " + one[1], rows.alpha(0, 0, 1), one[2]);
            }
        }
    }

    private static void putOnNothing() {
        Check.sentence("each band, where the new A is above 0: [..]; otherwise it stays.");
        BlendRows rows = new BlendRows(1, 1);
        rows.group(true, true);
        Look.paint(rows, 200, 10, 5);
        rows.mark(0, 255, 255);
        Look.paint(rows, 9);
        rows.mark(0, 255, 0);
        Check.due("nothing is left", Look.alphasAt(rows, 0, 0), "0 255 0");
        Check.due("but the colour stays", Look.colourAt(rows, 0, 0), "200 10 5");
        Check.due("and paper shows none of it", Look.paperAt(rows, 0, 0), "255 255 255");
        rows.group(true, false);
        rows.mark(0, 255, 0);
        Check.due("a group that ends without alpha", rows.end(0, 255), 2);
        Check.due("the colour stays there too", Look.colourAt(rows, 0, 0), "200 10 5");
        rows.mark(0, 255, 1);
        Check.due("an alpha of 1 is above 0", Look.at(rows, 0, 0), "9 9 9, 1 255 1");
    }

    private static void putIsAByteAtMost() {
        Check.sentence("/ (255 A), 255 at most");
        BlendRows rows = new BlendRows(1, 1);
        Look.paint(rows, 255, 0, 255);
        rows.mark(0, 255, 2);
        rows.mark(0, 255, 64);
        // G = (191 * 2 + 255 * 64 + 127) / 255 = 65.996; 255 * (191 * 2 + 64 * 255) + 8287 = 4267297, / 16575 = 257
        Check.due("257 is 255", Look.colourAt(rows, 0, 0), "255 0 255");
        Check.due("A", Look.alphasAt(rows, 0, 0), "65 255 65");
        Check.sentence("((255 - f) A' c + (f - a) B b + a ([..]) + 255 A / 2) / (255 A)");
        // On black with a = 1: 255 s + 32512 over 65025 is 1 from s = 128 on (32640 + 32512 = 65152).
        for (int s = 127; s <= 128; s++) {
            BlendRows half = Look.grey(0);
            Look.paint(half, s);
            half.mark(0, 255, 1);
            Check.due("half of one, " + s, half.point(0, 0, 1), s - 127);
        }
        // A = 1, so 255 A / 2 is 127: (254 c + 255 s + 127) / 255 with c = 1, s = 0 is 1.49.
        BlendRows thin = new BlendRows(1, 1);
        Look.paint(thin, 1);
        thin.mark(0, 1, 255);
        Look.paint(thin, 0);
        thin.mark(0, 1, 0);
        Check.due("the least alpha keeps its colour", Look.at(thin, 0, 0), "1 1 1, 1 2 1");
    }

    private static void putWithoutShape() {
        Check.sentence("For f = 0 nothing changes.");
        for (int kind = 0; kind < 4; kind++) {
            BlendRows rows = new BlendRows(2, 1);
            Look.paint(rows, 50, 60, 70);
            rows.mark(0, 200, 100);
            rows.group(kind % 2 == 0, kind / 2 == 0);
            rows.mark(0, 128, 200);
            Look.paint(rows, 250);
            String before = Look.portrait(rows);
            rows.mark(0, 0, 255);
            Check.due("a mark without shape", withoutMade(Look.portrait(rows)), withoutMade(before));
            rows.cover(0, 0, 0);
            String left = Look.colourAt(rows, 0, 0) + Look.alphasAt(rows, 0, 0);
            Check.due("points that it has", rows.mark(0, 255, 255), 1);
            Check.due("a point without cover", Look.colourAt(rows, 0, 0) + Look.alphasAt(rows, 0, 0), left);
            Check.due("a point with cover", Look.colourAt(rows, 1, 0), "250 250 250");
            String around = withoutMade(Look.portrait(rows));
            rows.group(false, false);
            rows.end(1, 255);
            Check.due("an empty group that ends", withoutMade(Look.portrait(rows)), around);
        }
        BlendRows slight = Look.grey(50);
        slight.cover(0, 0, 1);
        slight.mark(0, 127, 255);
        Check.due("a shape that is rounded to 0", slight.alpha(0, 0, 1), 255);
        Check.due("a shape that is rounded to 0", slight.point(0, 0, 0), 50);
    }

    /** A portrait without the number of marks that were made. */
    private static String withoutMade(String portrait) {
        int end = portrait.indexOf(" | ");
        return portrait.substring(0, portrait.lastIndexOf(' ', end - 1)) + portrait.substring(end);
    }

    /**
     * A whole grey in a group that knocks out, a mark in a group on it, and that group ended: the colour
     * that is seen then is the result's own, since what is below it is knocked out.
     */
    private static BlendRows resultOf(int grey, int v, int opacity) {
        BlendRows rows = new BlendRows(1, 1);
        rows.group(true, true);
        Look.paint(rows, grey);
        rows.mark(0, 255, 255);
        rows.group(false, false);
        Look.paint(rows, v);
        rows.mark(0, 255, opacity);
        rows.end(0, 255);
        return rows;
    }

    private static void resultLeavesTheBackdropOut() {
        Check.sentence("its RESULT at a point: shape F, alpha G, and the colour, for each band where G is above 0:"
                + " C + ((C - C0) (A0 255 - A0 G)) / (255 G)");
        Check.due("G of 255 leaves C", Look.colourAt(resultOf(100, 30, 255), 0, 0), "30 30 30");
        Check.due("no difference", Look.colourAt(resultOf(100, 100, 128), 0, 0), "100 100 100");
        // C = (127 * 255 * 100 + 128 * 255 * 200 + 32512) / 65025 = 150, 150 + 50 * 127 / 128 = 199.6
        BlendRows half = resultOf(100, 200, 128);
        Check.due("half", Look.colourAt(half, 0, 0), "199 199 199");
        Check.due("half: shape F, alpha G", Look.alphasAt(half, 0, 0), "128 255 128");
        // C = (254 * 255 * 0 + 255 * 255 + 32512) / 65025 = 1, 1 + 254
        Check.due("G of 1", Look.colourAt(resultOf(0, 255, 1), 0, 0), "255 255 255");
        // C = (102 * 255 * 253 + 32512) / 65025 = 101, 101 + 101 * 153 / 102 = 252.5
        Check.due("G of 102", Look.colourAt(resultOf(0, 253, 102), 0, 0), "252 252 252");
        BlendRows bare = new BlendRows(1, 1);
        bare.group(false, false);
        Look.paint(bare, 30);
        bare.mark(0, 255, 1);
        bare.end(0, 255);
        Check.due("A0 of 0 leaves C", Look.colourAt(bare, 0, 0), "30 30 30");
    }

    private static void resultGoesTowardZero() {
        Check.sentence("the quotient toward 0");
        // C = 150, and -50 * 127 / 128 = -49.6
        Check.due("of a negative number", Look.colourAt(resultOf(200, 100, 128), 0, 0), "101 101 101");
        Check.due("of a positive number", Look.colourAt(resultOf(100, 200, 128), 0, 0), "199 199 199");
    }

    private static void resultIsAByte() {
        Check.sentence("0 at least and 255 at most; otherwise 0.");
        // C = (254 * 255 * 100 + 255 * 255 + 32512) / 65025 = 101, and 101 + 254 = 355
        Check.due("355", Look.colourAt(resultOf(100, 255, 1), 0, 0), "255 255 255");
        // C = (254 * 255 * 200 + 32512) / 65025 = 199, and 199 - 254 = -55
        Check.due("-55", Look.colourAt(resultOf(200, 0, 1), 0, 0), "0 0 0");
    }

    private static void resultWithoutAlpha() {
        Check.sentence("for each band where G is above 0: [..]; otherwise 0.");
        BlendRows rows = Look.grey(200);
        rows.group(false, true);
        rows.mark(0, 255, 0);
        Check.due("a colour is there, G is not", Look.at(rows, 0, 0), "200 200 200, 0 255 255");
        rows.mask(2, false);
        Check.due("its LUM", rows.alpha(0, 0, 3), 0);
        rows.unmask();
        rows.group(false, true);
        rows.mark(0, 255, 0);
        rows.end(1, 255);
        Check.due("put on the page", Look.at(rows, 0, 0), "200 200 200, 255 255 255");
    }

    private static void endedAlphaIsWithinItsShape() {
        Check.sentence("with that colour, shape F, and alpha MUL(G, opacity) (F at most), or what the MASK leaves of"
                + " it.");
        int[][] alphas = {{255, 255, 255}, {255, 0, 0}, {0, 255, 0}, {1, 127, 0}, {1, 128, 1}, {128, 128, 64},
            {255, 1, 1}};
        for (int[] one : alphas) {
            BlendRows rows = new BlendRows(1, 1);
            rows.group(true, false);
            rows.mark(0, one[0], 255);
            rows.end(0, one[1]);
            String what = "alpha " + one[0] + " by opacity " + one[1];
            Check.due(what, Look.alphasAt(rows, 0, 0), one[2] + " " + one[0] + " " + one[2]);
        }
    }

    private static void markShapeAndAlpha() {
        Check.sentence("the COLOUR that is set, shape MUL(COVER of the point, shape), alpha MUL(that, opacity), or"
                + " what the mask leaves of it.");
        int[][] marks = {
            {255, 255, 255, 255, 255}, {0, 255, 255, 0, 0}, {255, 0, 255, 0, 0}, {255, 255, 0, 255, 0}, {1, 127, 255, 0, 0},
            {1, 128, 255, 1, 1}, {255, 1, 127, 1, 0}, {255, 1, 128, 1, 1}, {128, 128, 128, 64, 32}, {127, 2, 255, 1, 1},
        };
        for (int v = 0; v <= 255; v++) {
            BlendRows rows = new BlendRows(1, 1);
            rows.mark(0, v, 255);
            Check.due("shape " + v, Look.alphasAt(rows, 0, 0), v + " " + v + " " + v);
        }
        for (int[] one : marks) {
            BlendRows rows = new BlendRows(1, 1);
            rows.cover(0, 0, one[0]);
            String what = "cover " + one[0] + ", shape " + one[1] + ", opacity " + one[2];
            Check.due(what, rows.mark(0, one[1], one[2]), one[4] > 0 ? 1 : 0);
            Check.due(what, Look.alphasAt(rows, 0, 0), one[4] + " " + one[3] + " " + one[4]);
        }
    }

    private static void inksThatStay() {
        Check.sentence("Inks that STAY (a band each), of marks and of groups that end: for such a band s and BLEND are"
                + " b in the sums above");
        BlendRows rows = new BlendRows(1, 1);
        for (int band = 0; band < 3; band++) {
            rows.stays(band, true);
        }
        Look.paint(rows, 200);
        rows.mark(0, 255, 255);
        Check.due("all stay, on nothing", Look.at(rows, 0, 0), "0 0 0, 255 255 255");
        BlendRows half = new BlendRows(1, 1);
        Look.paint(half, 200);
        half.mark(0, 255, 128);
        half.stays(0, true);
        Look.paint(half, 50);
        half.mark(1, 255, 255);
        // MUL(200, 50) = 39: (127 * 50 + 128 * 39 + 127) / 255 = 44.9
        Check.due("s is b too, where it is seen through", Look.colourAt(half, 0, 0), "200 44 44");
        BlendRows knocking = Look.grey(100);
        knocking.group(false, true);
        Look.paint(knocking, 200);
        knocking.mark(0, 255, 255);
        knocking.stays(2, true);
        Look.paint(knocking, 50);
        knocking.mark(0, 255, 255);
        Check.due("b is the backdrop in a group that knocks out", Look.colourAt(knocking, 0, 0), "50 50 100");
        Check.sentence("(BLEND of the other bands is of the colour as it is)");
        BlendRows together = Look.grey(100);
        together.stays(0, true);
        Look.paint(together, 200, 0, 0);
        together.mark(14, 255, 255);
        // SETLUM(200 0 0, 100) = 240 40 40
        Check.due("mode 14", Look.colourAt(together, 0, 0), "100 40 40");
    }

    private static void inksThatStayOfGroups() {
        Check.sentence("Inks that STAY (a band each), of marks and of groups that end");
        BlendRows rows = Look.grey(100);
        rows.group(true, false);
        Look.paint(rows, 50, 60, 70);
        rows.mark(0, 255, 255);
        rows.stays(0, true);
        rows.stays(2, true);
        rows.end(0, 255);
        Check.due("a group that ends", Look.colourAt(rows, 0, 0), "100 60 100");
        rows.group(true, false);
        rows.mark(0, 255, 255);
        Check.due("marks in a group have its own colour below them", Look.colourAt(rows, 0, 0), "0 60 0");
        rows.mask(2, false);
        // 59 * 60 / 100
        Check.due("a mask is put nowhere: its inks are what they are", rows.alpha(0, 0, 3), 35);
    }

    private static void maskLeaves() {
        Check.sentence("THE MASK: a byte for each point; it leaves MUL(alpha, its byte).");
        int[][] left = {{255, 255, 255}, {0, 255, 0}, {255, 0, 0}, {127, 1, 0}, {128, 1, 1}, {1, 127, 0},
            {1, 128, 1}, {128, 128, 64}};
        for (int[] one : left) {
            BlendRows marked = Look.masked(one[0]);
            String what = "mask " + one[0] + ", alpha " + one[1];
            Check.due(what, marked.mark(0, 255, one[1]), one[2] > 0 ? 1 : 0);
            Check.due(what, Look.alphasAt(marked, 0, 0), one[2] + " 255 " + one[2]);
            BlendRows grouped = grouped(one[0]);
            grouped.end(0, one[1]);
            Check.due("a group, " + what, Look.alphasAt(grouped, 0, 0), one[2] + " 255 " + one[2]);
        }
        BlendRows two = new BlendRows(2, 2);
        two.group(true, false);
        two.cover(1, 0, 0);
        two.cover(0, 1, 128);
        two.mark(0, 255, 255);
        two.mask(1, false);
        Check.due("a byte for each point", Look.masks(two), "255 0 / 128 255 / ");
        two.fill(0, 0, 1, 1, 255);
        Check.due("points that it leaves", two.mark(0, 255, 255), 3);
        Check.due("a point of its own", two.alpha(0, 1, 0), 128);
    }

    /** A whole group on nothing, made without a mask, in front of a mask with that byte. */
    private static BlendRows grouped(int mask) {
        BlendRows rows = new BlendRows(1, 1);
        rows.group(true, false);
        rows.mark(0, 255, 255);
        rows.group(true, false);
        rows.mark(0, 255, mask);
        rows.mask(1, false);
        return rows;
    }

    private static void depthOfThePage() {
        Check.sentence("DEPTH: groups within each other, the page being 1.");
        BlendRows rows = new BlendRows(1, 1);
        Check.due("the page", rows.told(2), 1);
        for (int depth = 2; depth <= 9; depth++) {
            Check.due("group", rows.group(true, false), depth);
            Check.due("depth", rows.told(2), depth);
        }
        for (int depth = 8; depth >= 1; depth--) {
            Check.due("end", depth % 2 == 0 ? rows.end(0, 255) : rows.mask(1, false), depth);
            Check.due("depth", rows.told(2), depth);
        }
    }

    private static void deeperThanTheBound() {
        Check.sentence("A group that would be deeper than the BOUND, [..] is FLAT");
        for (int bound = 1; bound <= 6; bound++) {
            BlendRows rows = new BlendRows(1, 1);
            rows.bound(bound);
            for (int depth = 2; depth <= 8; depth++) {
                Look.paint(rows, depth);
                rows.mark(0, 255, 255);
                rows.group(true, false);
                Check.due("bound " + bound + ", depth " + depth, rows.point(0, 0, 0), depth <= bound ? 0 : depth);
            }
            int marks = rows.told(5);
            for (int depth = 8; depth >= 2; depth--) {
                rows.end(0, 255);
                Check.due("ended with bound " + bound, rows.told(5) - marks, depth <= bound ? bound - depth + 1 : 0);
            }
        }
    }

    private static void begunWithinAFlatOne() {
        Check.sentence("or is begun within a flat one, is FLAT");
        BlendRows rows = Look.grey(50);
        rows.bound(1);
        rows.group(true, false);
        rows.bound(6);
        rows.group(true, false);
        Check.due("a higher bound does not help", Look.colourAt(rows, 0, 0), "50 50 50");
        rows.end(0, 255);
        Check.due("it was flat", Look.toldAll(rows), "1 1 2 6 0 1");
        rows.group(true, false);
        Check.due("still within the flat one", Look.colourAt(rows, 0, 0), "50 50 50");
        rows.end(0, 255);
        rows.end(0, 255);
        rows.group(true, false);
        Check.due("no longer within the flat one", Look.colourAt(rows, 0, 0), "0 0 0");
    }

    private static void flatOnesDoNothingElse() {
        Check.sentence("it is counted, but there is none; its end does nothing else.");
        for (int kind = 0; kind < 4; kind++) {
            BlendRows rows = Look.masked(100);
            rows.bound(2);
            rows.group(true, false);
            Look.paint(rows, 50, 60, 70);
            rows.mark(0, 200, 200);
            String before = Look.portrait(rows);
            Check.due("it is counted", rows.group(kind % 2 == 0, kind / 2 == 0), 3);
            Check.due("there is none", Look.portrait(rows), before.replaceFirst("1 1 2 ", "1 1 3 "));
            Check.due("its end", rows.end(kind, kind), 2);
            Check.due("nothing else", Look.portrait(rows), before);
            rows.group(kind % 2 == 0, kind / 2 == 0);
            Check.due("its end as a mask", rows.mask(1 + kind / 2, kind % 2 == 0), 2);
            Check.due("nothing else", Look.portrait(rows), before);
        }
        BlendRows marked = Look.grey(50);
        marked.bound(1);
        marked.group(true, true);
        Look.paint(marked, 100);
        marked.mark(0, 255, 128);
        // (127 * 255 * 50 + 128 * 255 * 100 + 32512) / 65025
        Check.due("a mark meets the page, which does not knock out", Look.colourAt(marked, 0, 0), "75 75 75");
        marked.end(0, 0);
        Check.due("the mark is there after the end", Look.colourAt(marked, 0, 0), "75 75 75");
        Check.due("the mark was counted, the group not", marked.told(5), 2);
    }
}
