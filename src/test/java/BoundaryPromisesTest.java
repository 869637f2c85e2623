/** Each sentence of the promises that names a boundary case, with numbers worked out by hand. */
public final class BoundaryPromisesTest {
    private static final Class<IllegalArgumentException> ARGUMENT = IllegalArgumentException.class;
    private static final Class<IllegalStateException> STATE = IllegalStateException.class;
    private static final Class<ArrayIndexOutOfBoundsException> INDEX = ArrayIndexOutOfBoundsException.class;
    private static final Class<UnsupportedOperationException> UNSUPPORTED = UnsupportedOperationException.class;
    private static final int LEAST = Integer.MIN_VALUE;
    private static final int MOST = Integer.MAX_VALUE;
    // What is no byte, among them ints whose lowest byte alone would do.
    private static final int[] NO_BYTES = {-1, 256, -256, 511, 65536, LEAST, MOST};
    private static final int[] NO_MODES = {-1, 16, -16, 256, LEAST, MOST};

    public static void main(String[] args) {
        promise1Sizes();
        promise1Empty();
        promise2Told();
        promise2Counts();
        promise3Bound();
        promise3GroupsStay();
        promise4Group();
        promise4DeepestGroup();
        promise5End();
        promise5Refuses();
        promise6Mask();
        promise6OfAFlatGroup();
        promise6Refuses();
        promise7Unmask();
        promise8Colour();
        promise9Stays();
        promise10Cover();
        promise11Fill();
        promise12Mark();
        promise12Refuses();
        promise13Point();
        promise14Alpha();
        promise15Paper();
        promise16Separable();
        promise17Blend();
        Check.end();
    }

    private static String size(int width, int height) {
        BlendRows rows = new BlendRows(width, height);
        return rows.told(0) + " by " + rows.told(1);
    }

    private static void promise1Sizes() {
        Check.promise(1, "A page of 1 .. 12 by 1 .. 12 points");
        for (int side = 1; side <= 12; side++) {
            Check.due("width " + side, size(side, 5), side + " by 5");
            Check.due("height " + side, size(5, side), "5 by " + side);
        }
        Check.promise(1, "what is less counts as 1");
        for (int side : new int[] {0, -1, -12, LEAST}) {
            Check.due("width " + side, size(side, 5), "1 by 5");
            Check.due("height " + side, size(5, side), "5 by 1");
            Check.due("both " + side, size(side, side), "1 by 1");
        }
        BlendRows least = new BlendRows(0, 0);
        Check.due("its only point", least.mark(0, 255, 255), 1);
        Check.refused("no second column", () -> least.point(1, 0, 0), INDEX);
        Check.refused("no second row", () -> least.point(0, 1, 0), INDEX);
        Check.promise(1, "what is more as 12");
        for (int side : new int[] {13, 144, 65537, MOST}) {
            Check.due("width " + side, size(side, 5), "12 by 5");
            Check.due("height " + side, size(5, side), "5 by 12");
            Check.due("both " + side, size(side, side), "12 by 12");
        }
        BlendRows most = new BlendRows(13, MOST);
        Check.due("all points", most.mark(0, 255, 255), 144);
        Check.due("the last one", Look.alphasAt(most, 11, 11), "255 255 255");
        Check.refused("no column more", () -> most.point(12, 11, 0), INDEX);
        Check.refused("no row more", () -> most.point(11, 12, 0), INDEX);
    }

    private static void promise1Empty() {
        Check.promise(1, "colour 0, alpha 0 everywhere.");
        BlendRows rows = new BlendRows(12, 2);
        for (int x = 0; x < 12; x++) {
            for (int y = 0; y < 2; y++) {
                Check.due("colour", Look.colourAt(rows, x, y), "0 0 0");
                Check.due("alphas", Look.alphasAt(rows, x, y), "0 0 0");
            }
        }
        Check.promise(1, "Colour 0 is set, the cover is 255 everywhere, no mask, no inks stay, the bound is 6.");
        BlendRows fresh = new BlendRows(2, 3);
        Check.due("cover", Look.covers(fresh), "255 255 / 255 255 / 255 255 / ");
        Check.due("mask", Look.masks(fresh), "255 255 / 255 255 / 255 255 / ");
        Check.due("depth 1, bound 6, no mask, none made", Look.toldAll(fresh), "2 3 1 6 0 0");
        fresh.mark(0, 255, 255);
        Check.due("colour 0", Look.colourAt(fresh, 1, 2) + ", " + Look.paperAt(fresh, 1, 2), "0 0 0, 0 0 0");
        Look.paint(fresh, 1, 2, 3);
        fresh.mark(0, 255, 255);
        Check.due("no inks stay", Look.colourAt(fresh, 1, 2), "1 2 3");
    }

    private static void promise2Told() {
        Check.promise(2, "IllegalArgumentException for another what.");
        BlendRows rows = new BlendRows(2, 3);
        for (int what : new int[] {-1, 6, 7, 256, LEAST, MOST}) {
            Check.refused("told(" + what + ")", () -> rows.told(what), ARGUMENT);
        }
        Check.promise(2, "whether there is a mask (4: 1, or 0)");
        Check.due("none", rows.told(4), 0);
        rows.group(true, false);
        Check.due("none yet", rows.told(4), 0);
        rows.mask(1, false);
        Check.due("a mask that leaves nothing", rows.told(4), 1);
        rows.group(true, false);
        rows.mask(1, true);
        Check.due("a mask that leaves all", rows.told(4), 1);
        rows.unmask();
        Check.due("none again", rows.told(4), 0);
    }

    private static void promise2Counts() {
        Check.promise(2, "how many marks were made and groups ended by end() (5; flat ones are not counted)");
        BlendRows rows = new BlendRows(1, 1);
        Check.due("none", rows.told(5), 0);
        rows.mark(0, 0, 0);
        Check.due("a mark that has no shape", rows.told(5), 1);
        rows.group(true, false);
        Check.due("a group that is there", rows.told(5), 1);
        rows.end(0, 0);
        Check.due("a group that was empty", rows.told(5), 2);
        rows.group(true, false);
        rows.mask(1, false);
        Check.due("a group ended by mask()", rows.told(5), 2);
        rows.mark(0, 255, 255);
        Check.due("a mark of which the mask leaves nothing", rows.told(5), 3);
        rows.bound(1);
        rows.group(true, false);
        rows.end(0, 255);
        Check.due("a flat group", rows.told(5), 3);
        rows.group(true, false);
        rows.mark(0, 255, 255);
        Check.due("a mark in a flat group", rows.told(5), 4);
        rows.separable(0, 0, 0);
        rows.blend(0, 0, 0);
        Check.refused("mark", () -> rows.mark(16, 255, 255), ARGUMENT);
        Check.refused("end", () -> rows.end(16, 255), ARGUMENT);
        Check.due("refused calls, and blending alone", rows.told(5), 4);
    }

    private static void promise3Bound() {
        Check.promise(3, "The bound is 1 .. 6 from now on [..] IllegalArgumentException.");
        BlendRows rows = new BlendRows(1, 1);
        for (int most : new int[] {1, 6, 2, 5, 3, 4}) {
            rows.bound(most);
            Check.due("bound(" + most + ")", rows.told(3), most);
        }
        for (int most : new int[] {0, 7, -1, 8, 257, LEAST, MOST}) {
            Check.refused("bound(" + most + ")", () -> rows.bound(most), ARGUMENT);
            Check.due("the bound that it was", rows.told(3), 4);
        }
    }

    private static void promise3GroupsStay() {
        Check.promise(3, "(groups that are there stay)");
        BlendRows rows = new BlendRows(1, 1);
        Look.paint(rows, 50);
        for (int depth = 2; depth <= 6; depth++) {
            rows.group(true, false);
        }
        rows.mark(0, 255, 255);
        rows.bound(1);
        Check.due("the depth stays", rows.told(2), 6);
        Check.due("the group stays", Look.colourAt(rows, 0, 0), "50 50 50");
        rows.group(true, false);
        Check.due("a new one is flat", Look.colourAt(rows, 0, 0), "50 50 50");
        rows.end(0, 255);
        for (int made = 2; made <= 6; made++) {
            rows.end(0, 255);
            Check.due("they end as groups", rows.told(5), made);
        }
        Check.due("the mark has come down to the page", Look.colourAt(rows, 0, 0), "50 50 50");
        BlendRows between = new BlendRows(1, 1);
        between.group(true, false);
        between.group(true, false);
        between.bound(2);
        between.end(0, 255);
        between.group(true, false);
        between.mark(0, 255, 255);
        between.end(0, 0);
        Check.due("at the bound again, a new one is flat", Look.alphasAt(between, 0, 0), "255 255 255");
    }

    private static void promise4Group() {
        Check.promise(4, "A new group: the depth then.");
        BlendRows rows = new BlendRows(1, 1);
        Check.due("the first", rows.group(false, false), 2);
        Check.due("the second", rows.group(true, true), 3);
        rows.bound(1);
        Check.due("a flat one", rows.group(false, true), 4);
    }

    private static void promise4DeepestGroup() {
        Check.promise(4, "UnsupportedOperationException when it is 40.");
        for (int bound = 1; bound <= 6; bound += 5) {
            BlendRows rows = new BlendRows(1, 1);
            rows.bound(bound);
            for (int depth = 2; depth <= 40; depth++) {
                Check.due("depth", rows.group(depth % 2 == 0, depth % 3 == 0), depth);
            }
            Check.refused("isolated", () -> rows.group(true, false), UNSUPPORTED);
            Check.refused("not isolated, knocking out", () -> rows.group(false, true), UNSUPPORTED);
            Check.due("the depth stays", rows.told(2), 40);
            Check.due("one ends", rows.end(0, 255), 39);
            Check.due("one more", rows.group(true, false), 40);
            Check.refused("again", () -> rows.group(true, false), UNSUPPORTED);
            for (int depth = 39; depth >= 1; depth--) {
                Check.due("all end", rows.end(0, 255), depth);
            }
            Check.due("the real ones among them", rows.told(5), bound - 1);
        }
    }

    private static void promise5End() {
        Check.promise(5, "The group ends, by a mode and opacity: the depth then.");
        BlendRows rows = Look.grey(200);
        rows.group(true, false);
        rows.group(true, false);
        Look.paint(rows, 100);
        rows.mark(0, 255, 255);
        Check.due("to a group", rows.end(0, 255), 2);
        Check.due("to the page", rows.end(1, 255), 1);
        // MUL(200, 100) = 78
        Check.due("by its mode", Look.colourAt(rows, 0, 0), "78 78 78");
        for (int mode = 0; mode <= 15; mode++) {
            rows.group(true, false);
            rows.mark(0, 255, 255);
            Check.due("mode " + mode + ", opacity 0", rows.end(mode, 0), 1);
        }
        Check.due("opacity 0 changes no colour", Look.colourAt(rows, 0, 0), "78 78 78");
        rows.group(true, false);
        rows.mark(0, 255, 255);
        rows.end(15, 255);
        Check.due("mode 15, opacity 255", Look.colourAt(rows, 0, 0), "100 100 100");
    }

    private static void promise5Refuses() {
        Check.promise(5, "IllegalStateException when only the page is there");
        BlendRows page = new BlendRows(1, 1);
        Check.refused("a new object", () -> page.end(0, 0), STATE);
        page.group(true, false);
        page.mask(1, false);
        Check.refused("after a mask", () -> page.end(15, 255), STATE);
        Check.promise(5, "IllegalArgumentException for another mode than 0 .. 15, or opacity than 0 .. 255.");
        BlendRows rows = new BlendRows(1, 1);
        rows.group(true, false);
        rows.bound(1);
        for (int depth = 2; depth <= 3; depth++) {
            for (int mode : NO_MODES) {
                Check.refused("mode " + mode, () -> rows.end(mode, 255), ARGUMENT);
            }
            for (int opacity : NO_BYTES) {
                Check.refused("opacity " + opacity, () -> rows.end(0, opacity), ARGUMENT);
            }
            Check.refused("both", () -> rows.end(16, 256), ARGUMENT);
            Check.due("the group is there", rows.told(2), depth);
            rows.group(true, false);
        }
    }

    private static void promise6Mask() {
        Check.promise(6, "The group ends as THE MASK (in place of another one), and is put nowhere");
        BlendRows rows = new BlendRows(2, 1);
        rows.group(true, false);
        rows.mark(0, 255, 255);
        Check.due("the depth then", rows.mask(1, false), 1);
        Check.due("the page", Look.alphasAt(rows, 0, 0) + ", " + Look.alphasAt(rows, 1, 0), "0 0 0, 0 0 0");
        rows.group(true, false);
        rows.cover(0, 0, 0);
        rows.mark(0, 255, 128);
        rows.mask(1, false);
        Check.due("in place of another one, at all points", Look.masks(rows), "0 128 / ");
        rows.group(true, false);
        rows.group(true, false);
        Check.due("in a group", rows.mask(1, true), 2);
        Check.due("in place of another one again", Look.masks(rows), "255 255 / ");

        Check.promise(6, "kind 1: its G; [..] turned: 255 less that.");
        for (int g : new int[] {0, 1, 128, 255}) {
            Check.due("G " + g, Look.masked(g).alpha(0, 0, 3), g);
            BlendRows turned = new BlendRows(1, 1);
            turned.group(true, false);
            turned.mark(0, 255, g);
            turned.mask(1, true);
            Check.due("turned " + g, turned.alpha(0, 0, 3), 255 - g);
        }
        BlendRows backed = Look.grey(255);
        backed.group(false, false);
        backed.mark(0, 255, 100);
        backed.mask(1, false);
        Check.due("G, not A", backed.alpha(0, 0, 3), 100);

        Check.promise(6, "2: the LUM of its result's colour, each band c being MUL(c, G) before");
        // MUL by 1 is 1 from 128 on: 1 1 0 has LUM 0, 1 1 1 has 1.
        int[][] lums = {{255, 255, 255, 255, 255}, {0, 0, 0, 255, 0}, {255, 255, 255, 0, 0},
            {128, 128, 127, 1, 0}, {128, 128, 128, 1, 1},
            {255, 0, 0, 255, 76}, {0, 255, 0, 255, 150}, {0, 0, 255, 255, 28}, {100, 200, 50, 128, 76}};
        for (int[] lum : lums) {
            for (int turned = 0; turned <= 1; turned++) {
                BlendRows one = new BlendRows(1, 1);
                one.group(true, false);
                Look.paint(one, lum[0], lum[1], lum[2]);
                one.mark(0, 255, lum[3]);
                one.mask(2, turned == 1);
                String what = "LUM of " + lum[0] + " " + lum[1] + " " + lum[2] + " by " + lum[3];
                Check.due(what, one.alpha(0, 0, 3), turned == 1 ? 255 - lum[4] : lum[4]);
            }
        }
        BlendRows result = Look.grey(100);
        result.group(false, false);
        Look.paint(result, 200);
        result.mark(0, 255, 128);
        result.mask(2, false);
        // The colour is 150, the result's 199, and MUL(199, 128) = 100; MUL(150, 128) would be 75.
        Check.due("the result's colour", result.alpha(0, 0, 3), 100);
    }

    private static void promise6OfAFlatGroup() {
        Check.promise(6, "Of a flat group: nothing else. The depth then.");
        BlendRows rows = new BlendRows(1, 1);
        rows.bound(1);
        rows.group(true, false);
        rows.mark(0, 255, 100);
        Check.due("the depth then", rows.mask(1, false), 1);
        Check.due("no mask", Look.toldAll(rows) + ", " + rows.alpha(0, 0, 3), "1 1 1 1 0 1, 255");
        BlendRows masked = Look.masked(77);
        masked.bound(1);
        masked.group(true, false);
        masked.mask(2, true);
        Check.due("the mask that it was", Look.toldAll(masked) + ", " + masked.alpha(0, 0, 3), "1 1 1 1 1 1, 77");
    }

    private static void promise6Refuses() {
        Check.promise(6, "IllegalStateException; IllegalArgumentException for another kind.");
        BlendRows page = new BlendRows(1, 1);
        Check.refused("only the page, kind 1", () -> page.mask(1, false), STATE);
        Check.refused("only the page, kind 2", () -> page.mask(2, true), STATE);
        BlendRows rows = new BlendRows(1, 1);
        rows.group(true, false);
        rows.bound(1);
        for (int depth = 2; depth <= 3; depth++) {
            for (int kind : new int[] {0, 3, -1, 4, 257, LEAST, MOST}) {
                Check.refused("kind " + kind, () -> rows.mask(kind, true), ARGUMENT);
            }
            Check.due("the group is there, no mask is", Look.toldAll(rows), "1 1 " + depth + " 1 0 0");
            rows.group(true, false);
        }
    }

    private static void promise7Unmask() {
        Check.promise(7, "There is no mask any more.");
        BlendRows rows = Look.masked(0);
        Check.due("nothing is left", rows.mark(0, 255, 255), 0);
        rows.unmask();
        Check.due("no mask", rows.told(4) + " " + rows.alpha(0, 0, 3), "0 255");
        Check.due("all is left", rows.mark(0, 255, 255), 1);
        rows.unmask();
        Check.due("none before", rows.told(4) + " " + rows.alpha(0, 0, 3), "0 255");
        BlendRows fresh = new BlendRows(1, 1);
        fresh.unmask();
        Check.due("a new object", Look.portrait(fresh), Look.portrait(new BlendRows(1, 1)));
        BlendRows within = Look.masked(100);
        within.group(true, false);
        within.unmask();
        within.mark(0, 255, 255);
        within.end(0, 255);
        Check.due("within a group, and after it", Look.alphasAt(within, 0, 0), "255 255 255");
    }

    private static void promise8Colour() {
        Check.promise(8, "A band of the colour that is set.");
        BlendRows rows = new BlendRows(1, 1);
        Look.paint(rows, 255);
        rows.colour(0, 0);
        rows.mark(0, 255, 255);
        Check.due("band 0", Look.colourAt(rows, 0, 0), "0 255 255");
        rows.colour(2, 0);
        rows.mark(0, 255, 255);
        Check.due("band 2", Look.colourAt(rows, 0, 0), "0 255 0");
        Check.promise(8, "IllegalArgumentException when v is no byte; ArrayIndexOutOfBoundsException.");
        for (int v : NO_BYTES) {
            Check.refused("v " + v, () -> rows.colour(1, v), ARGUMENT);
        }
        for (int band : new int[] {-1, 3, 4, 32, -4, LEAST, MOST}) {
            Check.refused("band " + band, () -> rows.colour(band, 9), INDEX);
        }
        rows.mark(0, 255, 255);
        Check.due("the colour that it was", Look.colourAt(rows, 0, 0), "0 255 0");
    }

    private static void promise9Stays() {
        Check.promise(9, "An ink STAYS, or not.");
        for (int band = 0; band < 3; band++) {
            BlendRows rows = Look.grey(100);
            Look.paint(rows, 50);
            rows.stays(band, true);
            rows.stays(band, true);
            rows.mark(0, 255, 255);
            String[] one = {"100 50 50", "50 100 50", "50 50 100"};
            Check.due("band " + band + " stays", Look.colourAt(rows, 0, 0), one[band]);
            rows.stays((band + 1) % 3, false);
            rows.mark(0, 255, 255);
            Check.due("another does not", Look.colourAt(rows, 0, 0), one[band]);
            rows.stays(band, false);
            rows.mark(0, 255, 255);
            Check.due("no more", Look.colourAt(rows, 0, 0), "50 50 50");
        }
        Check.promise(9, "ArrayIndexOutOfBoundsException.");
        BlendRows rows = Look.grey(100);
        for (int band : new int[] {-1, 3, 32, 33, 34, -32, LEAST, MOST}) {
            Check.refused("band " + band, () -> rows.stays(band, true), INDEX);
            Check.refused("band " + band + ", not", () -> rows.stays(band, false), INDEX);
        }
        Look.paint(rows, 50);
        rows.mark(0, 255, 255);
        Check.due("none stay", Look.colourAt(rows, 0, 0), "50 50 50");
    }

    private static void promise10Cover() {
        Check.promise(10, "The cover of a point.");
        BlendRows rows = new BlendRows(3, 2);
        rows.cover(0, 0, 0);
        rows.cover(2, 1, 1);
        rows.cover(2, 0, 254);
        rows.cover(0, 1, 255);
        Check.due("the corners", Look.covers(rows), "0 255 254 / 255 255 1 / ");
        rows.group(true, false);
        Check.due("a group has no cover of its own", Look.covers(rows), "0 255 254 / 255 255 1 / ");
        Check.promise(10, "IllegalArgumentException when v is no byte; ArrayIndexOutOfBoundsException.");
        for (int v : NO_BYTES) {
            Check.refused("v " + v, () -> rows.cover(0, 0, v), ARGUMENT);
        }
        int[][] outside = {{-1, 0}, {3, 0}, {0, -1}, {0, 2}, {2, 2}, {-1, 1}, {-3, 1}, {3, -1}, {LEAST, 0}, {0, MOST}};
        for (int[] no : outside) {
            Check.refused("point " + no[0] + " " + no[1], () -> rows.cover(no[0], no[1], 7), INDEX);
        }
        Check.due("the covers that they were", Look.covers(rows), "0 255 254 / 255 255 1 / ");
    }

    private static String filled(int x, int y, int x2, int y2) {
        BlendRows rows = new BlendRows(4, 3);
        rows.fill(0, 0, 3, 2, 0);
        rows.fill(x, y, x2, y2, 1);
        return Look.covers(rows).replace(" ", "");
    }

    private static void promise11Fill() {
        Check.promise(11, "The cover of all points from (x, y) to (x2, y2) that the page has.");
        String none = "0000/0000/0000/";
        String all = "1111/1111/1111/";
        Check.due("one point", filled(1, 1, 1, 1), "0000/0100/0000/");
        Check.due("both ends are in it", filled(1, 0, 2, 1), "0110/0110/0000/");
        Check.due("the first corner", filled(0, 0, 0, 0), "1000/0000/0000/");
        Check.due("the last corner", filled(3, 2, 3, 2), "0000/0000/0001/");
        Check.due("the whole page", filled(0, 0, 3, 2), all);
        Check.due("more than the page", filled(-1, -1, 4, 3), all);
        Check.due("far more than the page", filled(LEAST, LEAST, MOST, MOST), all);
        Check.due("over the left edge", filled(-5, 1, 0, 1), "0000/1000/0000/");
        Check.due("over the right edge", filled(3, 1, MOST, 1), "0000/0001/0000/");
        Check.due("over the upper edge", filled(2, LEAST, 2, 0), "0010/0000/0000/");
        Check.due("over the lower edge", filled(2, 2, 2, 3), "0000/0000/0010/");
        Check.due("left of the page", filled(-2, 0, -1, 2), none);
        Check.due("right of the page", filled(4, 0, 9, 2), none);
        Check.due("above the page", filled(0, -2, 3, -1), none);
        Check.due("below the page", filled(0, 3, 3, MOST), none);
        Check.due("far off", filled(MOST, MOST, MOST, MOST), none);
        Check.due("far off", filled(LEAST, LEAST, LEAST, LEAST), none);
        Check.due("x2 before x", filled(2, 0, 1, 2), none);
        Check.due("y2 before y", filled(0, 2, 3, 1), none);
        Check.due("both far before", filled(MOST, MOST, LEAST, LEAST), none);
        Check.promise(11, "IllegalArgumentException when v is no byte.");
        BlendRows rows = new BlendRows(2, 1);
        rows.fill(0, 0, 0, 0, 0);
        Check.due("the bytes' edges", Look.covers(rows), "0 255 / ");
        for (int v : NO_BYTES) {
            Check.refused("v " + v, () -> rows.fill(0, 0, 1, 0, v), ARGUMENT);
            Check.refused("v " + v + ", no points", () -> rows.fill(5, 5, 6, 6, v), ARGUMENT);
        }
        Check.due("the covers that they were", Look.covers(rows), "0 255 / ");
    }

    private static void promise12Mark() {
        Check.promise(12, "A MARK: at how many points its alpha is above 0.");
        BlendRows rows = new BlendRows(3, 1);
        Check.due("all", rows.mark(0, 255, 255), 3);
        Check.due("the least alpha", rows.mark(0, 1, 255), 3);
        Check.due("the least alpha by opacity", rows.mark(0, 255, 1), 3);
        Check.due("no shape", rows.mark(0, 0, 255), 0);
        Check.due("no opacity", rows.mark(0, 255, 0), 0);
        Check.due("rounded to 1", rows.mark(0, 1, 128), 3);
        Check.due("rounded to 0", rows.mark(0, 1, 127), 0);
        rows.cover(1, 0, 0);
        Check.due("a point without cover", rows.mark(0, 255, 255), 2);
        rows.cover(2, 0, 1);
        Check.due("a point with the least cover", rows.mark(0, 255, 128), 2);
        Check.due("whose alpha is rounded to 0", rows.mark(0, 255, 127), 1);
        rows.fill(0, 0, 2, 0, 0);
        Check.due("no cover", rows.mark(0, 255, 255), 0);
        Check.due("all were made", rows.told(5), 11);
        Check.due("of which the mask leaves nothing", Look.masked(0).mark(0, 255, 255), 0);
        Check.due("of which the mask leaves 1", Look.masked(1).mark(0, 255, 128), 1);
        Check.due("of which the mask leaves less than half of 1", Look.masked(1).mark(0, 255, 127), 0);
    }

    private static void promise12Refuses() {
        Check.promise(12, "IllegalArgumentException for another mode than 0 .. 15, or what is no byte.");
        BlendRows rows = Look.grey(100);
        Look.paint(rows, 50);
        for (int mode : NO_MODES) {
            Check.refused("mode " + mode, () -> rows.mark(mode, 255, 255), ARGUMENT);
        }
        for (int no : NO_BYTES) {
            Check.refused("shape " + no, () -> rows.mark(0, no, 255), ARGUMENT);
            Check.refused("opacity " + no, () -> rows.mark(0, 255, no), ARGUMENT);
            Check.refused("opacity " + no + " without shape", () -> rows.mark(0, 0, no), ARGUMENT);
        }
        Check.due("the page that it was", Look.colourAt(rows, 0, 0) + ", " + rows.told(5), "100 100 100, 1");
        for (int mode = 0; mode <= 15; mode++) {
            Check.due("mode " + mode, rows.mark(mode, 255, 255), 1);
        }
        Check.due("all modes were made", rows.told(5), 17);
    }

    private interface At {
        int of(int x, int y, int last);
    }

    private static void noPoints(At at) {
        for (int[] no : new int[][] {{-1, 0}, {3, 0}, {0, -1}, {0, 2}, {-1, 1}, {-3, 1}, {3, -1}, {12, 12}}) {
            Check.refused("point " + no[0] + " " + no[1], () -> at.of(no[0], no[1], 0), INDEX);
        }
        for (int far : new int[] {LEAST, MOST, 1 << 30, -(1 << 30)}) {
            Check.refused("x " + far, () -> at.of(far, 0, 0), INDEX);
            Check.refused("y " + far, () -> at.of(0, far, 0), INDEX);
        }
    }

    private static void noBands(At at) {
        for (int band : new int[] {-1, 3, 4, 32, -4, LEAST, MOST}) {
            Check.refused("band " + band, () -> at.of(0, 0, band), INDEX);
        }
    }

    private static void promise13Point() {
        Check.promise(13, "A band of the colour of the group that is there, at a point.");
        BlendRows rows = new BlendRows(3, 2);
        Look.paint(rows, 1, 2, 3);
        rows.fill(0, 0, 2, 1, 0);
        rows.cover(0, 1, 255);
        rows.cover(2, 0, 255);
        rows.mark(0, 255, 255);
        Check.due("a corner", Look.colourAt(rows, 2, 0), "1 2 3");
        Check.due("a corner", Look.colourAt(rows, 0, 1), "1 2 3");
        Check.due("another", Look.colourAt(rows, 2, 1), "0 0 0");
        rows.group(true, false);
        Check.due("of the group", Look.colourAt(rows, 2, 0), "0 0 0");
        rows.end(0, 255);
        Check.due("of the page again", Look.colourAt(rows, 2, 0), "1 2 3");
        Check.promise(13, "ArrayIndexOutOfBoundsException.");
        noPoints((x, y, band) -> rows.point(x, y, band));
        noBands((x, y, band) -> rows.point(x, y, band));
    }

    private static void promise14Alpha() {
        Check.promise(14, "G (what = 0), F (1), A (2); the mask's byte (3; 255 without one), the cover (4).");
        BlendRows rows = new BlendRows(3, 2);
        rows.mark(0, 100, 255);
        rows.group(false, false);
        rows.mark(0, 200, 128);
        rows.cover(2, 1, 0);
        // A = 100 + 100 - MUL(100, 100)
        Check.due("G, F, A", Look.alphasAt(rows, 2, 1), "100 200 161");
        Check.due("without a mask", rows.alpha(2, 1, 3), 255);
        Check.due("cover", rows.alpha(2, 1, 4), 0);
        rows.group(true, false);
        rows.mark(0, 255, 9);
        rows.mask(1, false);
        Check.due("with a mask", rows.alpha(0, 0, 3) + " " + rows.alpha(2, 1, 3), "9 0");
        Check.promise(14, "ArrayIndexOutOfBoundsException; IllegalArgumentException for another what.");
        noPoints((x, y, what) -> rows.alpha(x, y, what));
        for (int what : new int[] {-1, 5, 6, 256, LEAST, MOST}) {
            Check.refused("what " + what, () -> rows.alpha(2, 1, what), ARGUMENT);
        }
    }

    private static void promise15Paper() {
        Check.promise(15, "A band as white paper shows it through the group that is there: MUL(c, A) + 255 - A.");
        int[][] papers = {{0, 0, 255}, {0, 255, 0}, {255, 0, 255}, {255, 255, 255}, {127, 1, 254}, {128, 1, 255},
            {0, 1, 254}, {100, 128, 177}};
        for (int[] one : papers) {
            BlendRows rows = new BlendRows(1, 1);
            Look.paint(rows, one[0]);
            rows.mark(0, 255, one[1]);
            Check.due("colour " + one[0] + ", alpha " + one[1], rows.paper(0, 0, 2), one[2]);
            rows.group(false, false);
            Check.due("A, not G", rows.paper(0, 0, 2), one[2]);
            rows.group(true, false);
            Check.due("an empty group", rows.paper(0, 0, 2), 255);
        }
        Check.promise(15, "ArrayIndexOutOfBoundsException.");
        BlendRows rows = new BlendRows(3, 2);
        noPoints((x, y, band) -> rows.paper(x, y, band));
        noBands((x, y, band) -> rows.paper(x, y, band));
    }

    private static void promise16Separable() {
        Check.promise(16, "BLEND of bytes, modes 0 .. 11.");
        int[] at255 = {255, 0, 255, 0, 0, 255, 0, 0, 255, 0, 255, 255};
        int[] on255 = {0, 0, 255, 255, 0, 255, 255, 255, 0, 255, 255, 255};
        BlendRows rows = new BlendRows(1, 1);
        for (int mode = 0; mode <= 11; mode++) {
            Check.due("mode " + mode + " of 0 and 255", rows.separable(mode, 0, 255), at255[mode]);
            Check.due("mode " + mode + " of 255 and 0", rows.separable(mode, 255, 0), on255[mode]);
        }
        Check.promise(16, "IllegalArgumentException for another mode, or what is no byte.");
        for (int mode : new int[] {-1, 12, 13, 14, 15, 16, 256, LEAST, MOST}) {
            Check.refused("mode " + mode, () -> rows.separable(mode, 0, 0), ARGUMENT);
        }
        for (int no : NO_BYTES) {
            Check.refused("b " + no, () -> rows.separable(0, no, 0), ARGUMENT);
            Check.refused("s " + no, () -> rows.separable(0, 0, no), ARGUMENT);
        }
        Check.refused("all", () -> rows.separable(12, 256, -1), ARGUMENT);
    }

    private static void promise17Blend() {
        Check.promise(17, "BLEND of colours (the first band as the lowest byte), any mode: the colour, likewise.");
        BlendRows rows = new BlendRows(1, 1);
        for (int mode = 0; mode <= 15; mode++) {
            int white = mode == 10 || mode == 11 ? 0 : 16777215;
            Check.due("mode " + mode + " of black", rows.blend(mode, 0, 0), 0);
            Check.due("mode " + mode + " of white", rows.blend(mode, 16777215, 16777215), white);
        }
        Check.due("the first band", rows.blend(1, 16777215, 7), 7);
        Check.due("the last band", rows.blend(1, 16777215, 7 << 16), 7 << 16);
        Check.due("each band alone", rows.blend(2, 0x0000ff, 0xff0000), 0xff00ff);
        Check.due("each band with its own", rows.blend(4, 0x3264c8, 0xc86432), 0x326432);
        Check.due("each band with its own", rows.blend(1, 0x010203, 16777215), 0x010203);
        Check.due("each band with its own", rows.blend(1, 16777215, 0x010203), 0x010203);
        // LUM is 30 of the lowest byte, 11 of the highest one.
        Check.due("mode 15 by the lowest byte", rows.blend(15, 0, 0x0000ff), Look.packed(76));
        Check.due("mode 15 by the highest byte", rows.blend(15, 0, 0xff0000), Look.packed(28));
        Check.promise(17, "IllegalArgumentException for another mode, or what is below 0, or above 16777215.");
        for (int mode : NO_MODES) {
            Check.refused("mode " + mode, () -> rows.blend(mode, 0, 0), ARGUMENT);
        }
        for (int no : new int[] {-1, 16777216, 1 << 25, 1 << 30, -16777216, LEAST, MOST}) {
            for (int mode = 0; mode <= 15; mode += 5) {
                int any = mode;
                Check.refused("b " + no, () -> rows.blend(any, no, 0), ARGUMENT);
                Check.refused("s " + no, () -> rows.blend(any, 0, no), ARGUMENT);
            }
        }
    }
}
