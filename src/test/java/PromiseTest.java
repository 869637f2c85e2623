/** Each promise of the document with numbers worked out by hand from its words. */
public final class PromiseTest {
    private static final Class<IllegalArgumentException> ARGUMENT = IllegalArgumentException.class;
    private static final Class<IllegalStateException> STATE = IllegalStateException.class;
    private static final Class<ArrayIndexOutOfBoundsException> INDEX = ArrayIndexOutOfBoundsException.class;
    private static final Class<UnsupportedOperationException> UNSUPPORTED = UnsupportedOperationException.class;

    public static void main(String[] args) {
        promise1NewObject();
        promise2Told();
        promise3Bound();
        promise4Group();
        promise4KnockingOut();
        promise4FlatGroups();
        promise5End();
        promise5BackdropLeavesTheResult();
        promise5EndRefuses();
        promise6Mask();
        promise6MaskRefuses();
        promise7Unmask();
        promise8Colour();
        promise9Stays();
        promise10Cover();
        promise11Fill();
        promise12Mark();
        promise12MarkOfColoursTogether();
        promise13Point();
        promise14Alpha();
        promise15Paper();
        promise16Separable();
        promise17Blend();
        Check.end();
    }

    private static void promise1NewObject() {
        BlendRows rows = new BlendRows(3, 2);
        Check.due("1: told", Look.toldAll(rows), "3 2 1 6 0 0");
        for (int x = 0; x < 3; x++) {
            for (int y = 0; y < 2; y++) {
                Check.due("1: colour", Look.colourAt(rows, x, y), "0 0 0");
                Check.due("1: alphas", Look.alphasAt(rows, x, y), "0 0 0");
                Check.due("1: mask", rows.alpha(x, y, 3), 255);
                Check.due("1: cover", rows.alpha(x, y, 4), 255);
                Check.due("1: paper", rows.paper(x, y, 1), 255);
            }
        }
        Check.due("1: colour 0 is set, and the cover is there", rows.mark(0, 255, 255), 6);
        Check.due("1: colour 0 is set", Look.colourAt(rows, 2, 1), "0 0 0");
        Check.due("1: colour 0 is set: paper", rows.paper(2, 1, 0), 0);
        Check.due("1: least", Look.toldAll(new BlendRows(0, Integer.MIN_VALUE)), "1 1 1 6 0 0");
        Check.due("1: most", Look.toldAll(new BlendRows(13, Integer.MAX_VALUE)), "12 12 1 6 0 0");
        Check.due("1: edges", Look.toldAll(new BlendRows(12, 1)), "12 1 1 6 0 0");
        Check.due("1: all of the largest page", new BlendRows(12, 12).mark(0, 1, 255), 144);
    }

    private static void promise2Told() {
        BlendRows rows = new BlendRows(5, 4);
        rows.mark(0, 0, 0);
        Check.due("2: a mark that nobody sees is made", Look.toldAll(rows), "5 4 1 6 0 1");
        rows.group(false, false);
        Check.due("2: depth", Look.toldAll(rows), "5 4 2 6 0 1");
        rows.end(0, 0);
        Check.due("2: an ended group counts", Look.toldAll(rows), "5 4 1 6 0 2");
        rows.group(false, false);
        rows.mask(1, false);
        Check.due("2: a mask does not count", Look.toldAll(rows), "5 4 1 6 1 2");
        rows.bound(1);
        rows.group(false, false);
        rows.end(0, 255);
        Check.due("2: a flat group does not count", Look.toldAll(rows), "5 4 1 1 1 2");
        rows.group(false, false);
        rows.mark(0, 255, 255);
        Check.due("2: a mark within a flat group counts", Look.toldAll(rows), "5 4 2 1 1 3");
        Check.refused("2: told(-1)", () -> rows.told(-1), ARGUMENT);
        Check.refused("2: told(6)", () -> rows.told(6), ARGUMENT);
        Check.refused("2: told(least)", () -> rows.told(Integer.MIN_VALUE), ARGUMENT);
        Check.refused("2: told(most)", () -> rows.told(Integer.MAX_VALUE), ARGUMENT);
        Check.refused("2: a refused mark", () -> rows.mark(0, 256, 0), ARGUMENT);
        Check.due("2: a refused mark does not count", rows.told(5), 3);
    }

    private static void promise3Bound() {
        BlendRows rows = new BlendRows(1, 1);
        for (int most = 1; most <= 6; most++) {
            rows.bound(most);
            Check.due("3: bound", rows.told(3), most);
        }
        Check.refused("3: bound(0)", () -> rows.bound(0), ARGUMENT);
        Check.refused("3: bound(7)", () -> rows.bound(7), ARGUMENT);
        Check.refused("3: bound(least)", () -> rows.bound(Integer.MIN_VALUE), ARGUMENT);
        Check.due("3: refused ones change nothing", rows.told(3), 6);
        rows.group(true, false);
        rows.group(true, false);
        rows.bound(1);
        rows.colour(0, 9);
        rows.mark(0, 255, 255);
        rows.end(0, 255);
        Check.due("3: groups that are there stay", rows.told(5), 2);
        Check.due("3: groups that are there stay", Look.colourAt(rows, 0, 0), "9 0 0");
        rows.end(0, 255);
        Check.due("3: groups that are there stay", Look.colourAt(rows, 0, 0), "9 0 0");
        Check.due("3: groups that are there stay", rows.told(5), 3);
    }

    private static void promise4Group() {
        BlendRows rows = Look.grey(100);
        Check.due("4: depth then", rows.group(false, false), 2);
        Check.due("4: begins with the colour around it", Look.colourAt(rows, 0, 0), "100 100 100");
        Check.due("4: own alpha and shape are 0 at first", Look.alphasAt(rows, 0, 0), "0 0 255");
        // MUL(100, 100) = 10127 / 255
        rows.mark(1, 255, 255);
        Check.due("4: blends with its backdrop", Look.colourAt(rows, 0, 0), "39 39 39");
        Check.due("4: own alpha", Look.alphasAt(rows, 0, 0), "255 255 255");
        Check.due("4: depth then", rows.group(true, false), 3);
        Check.due("4: alone", Look.colourAt(rows, 0, 0), "0 0 0");
        Check.due("4: alone", Look.alphasAt(rows, 0, 0), "0 0 0");
        rows.mark(1, 255, 255);
        Check.due("4: alone it has nothing to blend with", Look.colourAt(rows, 0, 0), "100 100 100");
        for (int depth = 4; depth <= 40; depth++) {
            Check.due("4: depth then", rows.group(true, true), depth);
        }
        Check.refused("4: deeper than 40", () -> rows.group(true, true), UNSUPPORTED);
        Check.due("4: deeper than 40 changes nothing", Look.toldAll(rows), "1 1 40 6 0 3");
        for (int depth = 39; depth >= 1; depth--) {
            Check.due("4: all of them end", rows.end(0, 255), depth);
        }
        Check.refused("4: the page is left", () -> rows.end(0, 255), STATE);
    }

    private static void promise4KnockingOut() {
        BlendRows rows = new BlendRows(1, 1);
        rows.group(true, true);
        Look.paint(rows, 200, 0, 0);
        rows.mark(0, 255, 255);
        Look.paint(rows, 0, 0, 100);
        rows.mark(0, 255, 128);
        Check.due("4: knocks out", Look.colourAt(rows, 0, 0), "0 0 100");
        Check.due("4: knocks out", Look.alphasAt(rows, 0, 0), "128 255 128");
        Look.paint(rows, 0, 50, 0);
        rows.mark(0, 128, 255);
        // G = (127 * 128 + 255 * 128 + 127) / 255 = 49023 / 255, and F stays whole.
        Check.due("4: knocks out by shape", Look.alphasAt(rows, 0, 0), "192 255 192");
        // green: (128 * 255 * 50 + 24480) / 48960; blue: (127 * 128 * 100 + 24480) / 48960
        Check.due("4: knocks out by shape", Look.colourAt(rows, 0, 0), "0 33 33");
        rows.end(0, 255);

        BlendRows onGrey = Look.grey(100);
        onGrey.group(false, true);
        Look.paint(onGrey, 255, 255, 255);
        onGrey.mark(0, 255, 255);
        Look.paint(onGrey, 100, 100, 100);
        onGrey.mark(1, 255, 255);
        Check.due("4: each mark meets the backdrop", Look.colourAt(onGrey, 0, 0), "39 39 39");
        onGrey.mark(1, 255, 0);
        Check.due("4: shape without alpha shows the backdrop", Look.colourAt(onGrey, 0, 0), "100 100 100");
        Check.due("4: shape without alpha", Look.alphasAt(onGrey, 0, 0), "0 255 255");

        BlendRows plain = new BlendRows(1, 1);
        plain.group(true, false);
        Look.paint(plain, 200, 0, 0);
        plain.mark(0, 255, 255);
        Look.paint(plain, 0, 0, 100);
        plain.mark(0, 255, 128);
        // red: (127 * 255 * 200 + 32512) / 65025; blue: (128 * 255 * 100 + 32512) / 65025
        Check.due("4: does not knock out", Look.colourAt(plain, 0, 0), "100 0 50");
        Check.due("4: does not knock out", Look.alphasAt(plain, 0, 0), "255 255 255");
    }

    private static void promise4FlatGroups() {
        BlendRows rows = Look.grey(100);
        rows.bound(2);
        rows.group(true, false);
        Check.due("4: flat ones are counted", rows.group(true, true), 3);
        rows.colour(0, 7);
        rows.mark(0, 255, 255);
        Check.due("4: marks reach the group below a flat one", Look.colourAt(rows, 0, 0), "7 100 100");
        rows.bound(6);
        Check.due("4: within a flat one", rows.group(true, false), 4);
        Check.due("4: within a flat one all are flat", Look.colourAt(rows, 0, 0), "7 100 100");
        Check.due("4: a flat one ends", rows.end(0, 0), 3);
        Check.due("4: a flat one as a mask", rows.mask(1, true), 2);
        Check.due("4: a flat one does nothing else", Look.toldAll(rows), "1 1 2 6 0 2");
        Check.due("4: a flat one does nothing else", Look.colourAt(rows, 0, 0), "7 100 100");
        rows.group(true, false);
        Check.due("4: real again", Look.colourAt(rows, 0, 0), "0 0 0");
        rows.end(0, 255);
        Check.due("4: real again", rows.told(5), 3);

        BlendRows deep = new BlendRows(1, 1);
        Look.paint(deep, 5, 5, 5);
        for (int depth = 2; depth <= 6; depth++) {
            deep.group(true, false);
        }
        deep.mark(0, 255, 255);
        deep.group(true, false);
        Check.due("4: depth 7 is flat", Look.colourAt(deep, 0, 0), "5 5 5");
        deep.end(0, 255);
        Check.due("4: depth 7 is flat", deep.told(5), 1);
        for (int depth = 5; depth >= 1; depth--) {
            deep.end(0, 255);
            Check.due("4: depth 6 is real", Look.colourAt(deep, 0, 0), "5 5 5");
        }
        Check.due("4: depth 6 is real", deep.told(5), 6);
    }

    private static void promise5End() {
        BlendRows rows = Look.grey(200);
        rows.group(true, false);
        Look.paint(rows, 100, 255, 0);
        rows.mark(0, 128, 255);
        Check.due("5: the depth then", rows.end(1, 128), 1);
        // The element has f 128 and a = MUL(128, 128) = 64. MUL(200, 100) is 78.
        // red: (127 * 255 * 200 + 64 * 255 * 200 + 64 * 255 * 78 + 32512) / 65025
        Check.due("5: put by its mode and opacity", Look.colourAt(rows, 0, 0), "169 200 150");
        Check.due("5: an opaque page", Look.alphasAt(rows, 0, 0), "255 255 255");

        BlendRows bare = new BlendRows(1, 1);
        bare.group(true, false);
        Look.paint(bare, 100, 255, 0);
        bare.mark(0, 128, 255);
        bare.end(1, 128);
        Check.due("5: on nothing", Look.colourAt(bare, 0, 0), "100 255 0");
        Check.due("5: on nothing", Look.alphasAt(bare, 0, 0), "64 128 64");
        bare.group(false, false);
        bare.end(0, 255);
        Check.due("5: an empty group changes nothing", Look.alphasAt(bare, 0, 0), "64 128 64");
    }

    private static void promise5BackdropLeavesTheResult() {
        BlendRows rows = Look.grey(100);
        rows.group(false, false);
        Look.paint(rows, 200, 200, 200);
        rows.mark(0, 255, 128);
        // (127 * 255 * 100 + 128 * 255 * 200 + 32512) / 65025
        Check.due("5: within", Look.colourAt(rows, 0, 0), "150 150 150");
        rows.end(1, 255);
        // The result is 150 + 50 * 32385 / 32640 = 199; MUL(100, 199) = 78.
        // (127 * 255 * 100 + 128 * 255 * 78 + 32512) / 65025
        Check.due("5: the backdrop is taken out", Look.colourAt(rows, 0, 0), "89 89 89");

        BlendRows low = Look.grey(200);
        low.group(false, false);
        Look.paint(low, 100, 100, 100);
        low.mark(0, 255, 128);
        // 150 - 49.6 toward 0 is 101, and MUL(101, 128) = 51; downward it would be 50.
        low.mask(2, false);
        Check.due("5: that quotient goes toward 0", low.alpha(0, 0, 3), 51);

        BlendRows thin = Look.grey(0);
        thin.group(false, false);
        Look.paint(thin, 255, 255, 255);
        thin.mark(0, 255, 1);
        // C is 1, and 1 + 1 * 255 * 254 / 255 = 255.
        Check.due("5: thin", Look.colourAt(thin, 0, 0), "1 1 1");
        thin.end(5, 255);
        Check.due("5: thin", Look.colourAt(thin, 0, 0), "1 1 1");
    }

    private static void promise5EndRefuses() {
        BlendRows rows = new BlendRows(1, 1);
        Check.refused("5: only the page", () -> rows.end(0, 255), STATE);
        Check.refused("5: the first exception", () -> rows.end(16, 256), STATE);
        rows.group(true, false);
        rows.mark(0, 255, 255);
        for (int wrong : new int[] {-1, 16, Integer.MIN_VALUE, Integer.MAX_VALUE}) {
            Check.refused("5: mode " + wrong, () -> rows.end(wrong, 255), ARGUMENT);
        }
        for (int wrong : new int[] {-1, 256, Integer.MIN_VALUE, Integer.MAX_VALUE}) {
            Check.refused("5: opacity " + wrong, () -> rows.end(0, wrong), ARGUMENT);
        }
        Check.due("5: refused ones change nothing", Look.toldAll(rows), "1 1 2 6 0 1");
        rows.bound(1);
        rows.group(true, false);
        Check.refused("5: a flat one too", () -> rows.end(16, 255), ARGUMENT);
        Check.due("5: a flat one too", rows.told(2), 3);
        Check.due("5: mode 15, opacity 0", rows.end(15, 0), 2);
        Check.due("5: mode 15, opacity 0", rows.end(15, 0), 1);
        Check.due("5: no opacity, but shape", Look.alphasAt(rows, 0, 0), "0 255 0");
    }

    private static void promise6Mask() {
        BlendRows rows = new BlendRows(2, 1);
        rows.group(true, false);
        rows.cover(1, 0, 0);
        rows.mark(0, 255, 128);
        rows.cover(1, 0, 255);
        Check.due("6: the depth then", rows.mask(1, false), 1);
        Check.due("6: its G", rows.alpha(0, 0, 3) + " " + rows.alpha(1, 0, 3), "128 0");
        Check.due("6: put nowhere", Look.alphasAt(rows, 0, 0), "0 0 0");
        Check.due("6: a mask is there", rows.told(4), 1);
        Look.paint(rows, 9, 9, 9);
        Check.due("6: the mask leaves one point", rows.mark(0, 255, 100), 1);
        // MUL(100, 128) = 50; the shape is whole.
        Check.due("6: the mask leaves that", Look.alphasAt(rows, 0, 0), "50 255 50");
        Check.due("6: the mask leaves nothing", Look.alphasAt(rows, 1, 0), "0 255 0");
        rows.group(true, false);
        rows.unmask();
        rows.mark(0, 255, 200);
        rows.mask(1, true);
        Check.due("6: turned, in place of another", rows.alpha(0, 0, 3) + " " + rows.alpha(1, 0, 3), "55 55");

        BlendRows lum = new BlendRows(1, 1);
        lum.group(true, false);
        Look.paint(lum, 100, 200, 50);
        lum.mark(0, 255, 128);
        lum.mask(2, false);
        // MUL by 128: 50, 100, 25; (30 * 50 + 59 * 100 + 11 * 25) / 100
        Check.due("6: LUM", lum.alpha(0, 0, 3), 76);
        lum.group(true, false);
        lum.mask(2, true);
        Check.due("6: LUM of nothing, turned", lum.alpha(0, 0, 3), 255);

        BlendRows ended = new BlendRows(1, 1);
        ended.group(true, false);
        ended.mark(0, 255, 128);
        ended.mask(1, false);
        ended.group(true, false);
        ended.unmask();
        ended.mark(0, 255, 128);
        ended.mask(1, false);
        ended.group(true, false);
        ended.mark(0, 255, 255);
        Check.due("6: marks within a group meet the mask", Look.alphasAt(ended, 0, 0), "128 255 128");
        ended.end(0, 255);
        Check.due("6: groups that end meet it too", Look.alphasAt(ended, 0, 0), "64 255 64");
    }

    private static void promise6MaskRefuses() {
        BlendRows rows = new BlendRows(1, 1);
        Check.refused("6: only the page", () -> rows.mask(1, false), STATE);
        Check.refused("6: the first exception", () -> rows.mask(0, false), STATE);
        rows.group(true, false);
        for (int wrong : new int[] {0, 3, -1, Integer.MIN_VALUE, Integer.MAX_VALUE}) {
            Check.refused("6: kind " + wrong, () -> rows.mask(wrong, true), ARGUMENT);
        }
        Check.due("6: refused ones change nothing", Look.toldAll(rows), "1 1 2 6 0 0");
        rows.bound(1);
        rows.group(true, false);
        Check.refused("6: a flat one too", () -> rows.mask(3, true), ARGUMENT);
        Check.due("6: of a flat one", rows.mask(2, true), 2);
        Check.due("6: of a flat one nothing else", Look.toldAll(rows), "1 1 2 1 0 0");
    }

    private static void promise7Unmask() {
        BlendRows rows = new BlendRows(1, 1);
        rows.unmask();
        Check.due("7: none before", rows.told(4), 0);
        rows.group(true, false);
        rows.mask(1, false);
        Check.due("7: nothing passes", rows.mark(0, 255, 255), 0);
        rows.unmask();
        Check.due("7: none now", rows.told(4), 0);
        Check.due("7: its byte", rows.alpha(0, 0, 3), 255);
        Check.due("7: all passes", rows.mark(0, 255, 255), 1);
        Check.due("7: all passes", Look.alphasAt(rows, 0, 0), "255 255 255");
    }

    private static void promise8Colour() {
        BlendRows rows = new BlendRows(1, 1);
        Look.paint(rows, 255, 1, 128);
        rows.colour(1, 2);
        rows.mark(0, 255, 255);
        Check.due("8: the bands that are set", Look.colourAt(rows, 0, 0), "255 2 128");
        for (int wrong : new int[] {-1, 256, Integer.MIN_VALUE, Integer.MAX_VALUE}) {
            Check.refused("8: v " + wrong, () -> rows.colour(0, wrong), ARGUMENT);
            Check.refused("8: the first exception", () -> rows.colour(3, wrong), ARGUMENT);
        }
        for (int wrong : new int[] {-1, 3, 4, Integer.MIN_VALUE, Integer.MAX_VALUE}) {
            Check.refused("8: band " + wrong, () -> rows.colour(wrong, 7), INDEX);
        }
        rows.mark(0, 255, 255);
        Check.due("8: refused ones change nothing", Look.colourAt(rows, 0, 0), "255 2 128");
    }

    private static void promise9Stays() {
        BlendRows rows = Look.grey(100);
        rows.stays(1, true);
        Look.paint(rows, 50, 60, 70);
        rows.mark(0, 255, 255);
        Check.due("9: an ink stays", Look.colourAt(rows, 0, 0), "50 100 70");
        rows.group(true, false);
        rows.mark(0, 255, 255);
        Check.due("9: it stays 0 on nothing", Look.colourAt(rows, 0, 0), "50 0 70");
        rows.stays(0, true);
        rows.end(2, 255);
        Check.due("9: of groups that end too", Look.colourAt(rows, 0, 0), "50 100 121");
        rows.stays(0, false);
        rows.stays(1, false);
        rows.mark(0, 255, 255);
        Check.due("9: no more", Look.colourAt(rows, 0, 0), "50 60 70");
        for (int wrong : new int[] {-1, 3, 32, Integer.MIN_VALUE, Integer.MAX_VALUE}) {
            Check.refused("9: band " + wrong, () -> rows.stays(wrong, true), INDEX);
        }
        Look.paint(rows, 1, 2, 3);
        rows.mark(0, 255, 255);
        Check.due("9: refused ones change nothing", Look.colourAt(rows, 0, 0), "1 2 3");

        BlendRows hues = Look.grey(100);
        hues.stays(0, true);
        Look.paint(hues, 200, 0, 0);
        hues.mark(14, 255, 255);
        // SETLUM(200 0 0, 100) is 240 40 40: the bands that go are of the whole colour.
        Check.due("9: the others blend the colour as it is", Look.colourAt(hues, 0, 0), "100 40 40");
    }

    private static void promise10Cover() {
        BlendRows rows = new BlendRows(3, 2);
        rows.cover(2, 1, 0);
        rows.cover(0, 1, 128);
        Check.due("10: covers", rows.alpha(2, 1, 4) + " " + rows.alpha(0, 1, 4) + " " + rows.alpha(1, 0, 4), "0 128 255");
        Check.due("10: a mark sees them", rows.mark(0, 128, 255), 5);
        // MUL(128, 128) = 64
        Check.due("10: a mark sees them", Look.alphasAt(rows, 0, 1), "64 64 64");
        Check.due("10: a mark sees them", Look.alphasAt(rows, 2, 1), "0 0 0");
        for (int wrong : new int[] {-1, 256, Integer.MIN_VALUE, Integer.MAX_VALUE}) {
            Check.refused("10: v " + wrong, () -> rows.cover(0, 1, wrong), ARGUMENT);
            Check.refused("10: the first exception", () -> rows.cover(3, 1, wrong), ARGUMENT);
        }
        for (int wrong : new int[] {-1, 3, Integer.MIN_VALUE, Integer.MAX_VALUE}) {
            Check.refused("10: x " + wrong, () -> rows.cover(wrong, 0, 7), INDEX);
            Check.refused("10: y " + wrong, () -> rows.cover(0, wrong, 7), INDEX);
        }
        Check.refused("10: y 2", () -> rows.cover(0, 2, 7), INDEX);
        Check.due("10: refused ones change nothing", Look.covers(rows), "255 255 255 / 128 255 0 / ");
    }

    private static void promise11Fill() {
        BlendRows rows = new BlendRows(3, 3);
        rows.fill(1, 0, 2, 1, 7);
        Check.due("11: both corners are in it", Look.covers(rows), "255 7 7 / 255 7 7 / 255 255 255 / ");
        rows.fill(-5, 2, 0, 90, 8);
        Check.due("11: what the page has", Look.covers(rows), "255 7 7 / 255 7 7 / 8 255 255 / ");
        rows.fill(2, 2, 1, 2, 9);
        rows.fill(0, 1, 2, 0, 9);
        rows.fill(3, 0, 5, 5, 9);
        rows.fill(-3, -3, -1, -1, 9);
        Check.due("11: no points", Look.covers(rows), "255 7 7 / 255 7 7 / 8 255 255 / ");
        rows.fill(1, 1, 1, 1, 0);
        Check.due("11: one point", Look.covers(rows), "255 7 7 / 255 0 7 / 8 255 255 / ");
        for (int wrong : new int[] {-1, 256, Integer.MIN_VALUE, Integer.MAX_VALUE}) {
            Check.refused("11: v " + wrong, () -> rows.fill(0, 0, 2, 2, wrong), ARGUMENT);
        }
        Check.refused("11: v, no points", () -> rows.fill(5, 5, 6, 6, 256), ARGUMENT);
        Check.due("11: refused ones change nothing", Look.covers(rows), "255 7 7 / 255 0 7 / 8 255 255 / ");
        rows.fill(Integer.MIN_VALUE, Integer.MIN_VALUE, Integer.MAX_VALUE, Integer.MAX_VALUE, 3);
        Check.due("11: far corners", Look.covers(rows), "3 3 3 / 3 3 3 / 3 3 3 / ");
        rows.fill(Integer.MAX_VALUE, 0, Integer.MIN_VALUE, 2, 4);
        Check.due("11: far corners, none between", Look.covers(rows), "3 3 3 / 3 3 3 / 3 3 3 / ");
    }

    private static void promise12Mark() {
        BlendRows rows = new BlendRows(2, 2);
        Look.paint(rows, 200, 100, 50);
        Check.due("12: points", rows.mark(0, 255, 128), 4);
        Check.due("12: on nothing", Look.colourAt(rows, 1, 1), "200 100 50");
        Check.due("12: on nothing", Look.alphasAt(rows, 1, 1), "128 255 128");
        Look.paint(rows, 100, 100, 100);
        rows.cover(0, 0, 0);
        Check.due("12: points", rows.mark(1, 128, 255), 3);
        // f = a = 128, B = 128, G = 49023 / 255 = 192; MUL(200, 100) = 78
        // red: (127 * 128 * 200 + 128 * (127 * 100 + 128 * 78) + 24480) / 48960
        Check.due("12: half seen through", Look.alphasAt(rows, 1, 1), "192 255 192");
        Check.due("12: half seen through", Look.colourAt(rows, 1, 1), "126 79 56");
        Check.due("12: no cover", Look.colourAt(rows, 0, 0), "200 100 50");
        Check.due("12: no shape", rows.mark(0, 0, 255), 0);
        Check.due("12: no opacity", rows.mark(0, 255, 0), 0);
        Check.due("12: an alpha of 0.25 is rounded away", rows.mark(0, 1, 100), 0);
        Check.due("12: changed nothing", Look.alphasAt(rows, 1, 1), "192 255 192");
        for (int wrong : new int[] {-1, 16, Integer.MIN_VALUE, Integer.MAX_VALUE}) {
            Check.refused("12: mode " + wrong, () -> rows.mark(wrong, 255, 255), ARGUMENT);
        }
        for (int wrong : new int[] {-1, 256, Integer.MIN_VALUE, Integer.MAX_VALUE}) {
            Check.refused("12: shape " + wrong, () -> rows.mark(0, wrong, 255), ARGUMENT);
            Check.refused("12: opacity " + wrong, () -> rows.mark(0, 255, wrong), ARGUMENT);
        }
        Check.due("12: refused ones change nothing", Look.colourAt(rows, 1, 1), "126 79 56");
        Check.due("12: refused ones change nothing", Look.toldAll(rows), "2 2 1 6 0 5");
    }

    private static void promise12MarkOfColoursTogether() {
        BlendRows rows = Look.grey(100);
        Look.paint(rows, 200, 0, 0);
        rows.mark(14, 255, 255);
        Check.due("12: mode 14", Look.colourAt(rows, 0, 0), "240 40 40");
        rows.mark(12, 255, 255);
        // SETSAT(200 0 0, 200) is itself, LUM(240 40 40) = 100
        Check.due("12: mode 12", Look.colourAt(rows, 0, 0), "240 40 40");
        Look.paint(rows, 9, 9, 9);
        rows.mark(13, 255, 255);
        Check.due("12: mode 13 takes all saturation", Look.colourAt(rows, 0, 0), "100 100 100");
        rows.mark(15, 255, 255);
        Check.due("12: mode 15", Look.colourAt(rows, 0, 0), "9 9 9");
    }

    private static void promise13Point() {
        BlendRows rows = new BlendRows(3, 2);
        rows.fill(0, 0, 2, 1, 0);
        rows.cover(2, 0, 255);
        Look.paint(rows, 1, 2, 3);
        rows.mark(0, 255, 255);
        Check.due("13: there", Look.colourAt(rows, 2, 0), "1 2 3");
        Check.due("13: not there", Look.colourAt(rows, 0, 1), "0 0 0");
        rows.group(true, false);
        Check.due("13: of the group that is there", Look.colourAt(rows, 2, 0), "0 0 0");
        noPoint("13", (x, y, band) -> rows.point(x, y, band));
        noBand("13", (x, y, band) -> rows.point(x, y, band));
    }

    private interface At {
        int of(int x, int y, int what);
    }

    private static void noPoint(String promise, At at) {
        for (int wrong : new int[] {-1, 3, Integer.MIN_VALUE, Integer.MAX_VALUE}) {
            Check.refused(promise + ": x " + wrong, () -> at.of(wrong, 0, 0), INDEX);
            Check.refused(promise + ": y " + wrong, () -> at.of(0, wrong, 0), INDEX);
        }
        Check.refused(promise + ": y 2", () -> at.of(0, 2, 0), INDEX);
    }

    private static void noBand(String promise, At at) {
        for (int wrong : new int[] {-1, 3, Integer.MIN_VALUE, Integer.MAX_VALUE}) {
            Check.refused(promise + ": band " + wrong, () -> at.of(0, 0, wrong), INDEX);
        }
    }

    private static void promise14Alpha() {
        BlendRows rows = new BlendRows(3, 2);
        rows.mark(0, 200, 128);
        // MUL(200, 128) = 25727 / 255
        Check.due("14: G, F, A", Look.alphasAt(rows, 1, 1), "100 200 100");
        rows.group(false, false);
        rows.mark(0, 100, 255);
        // A = 100 + 100 - MUL(100, 100)
        Check.due("14: with a backdrop", Look.alphasAt(rows, 1, 1), "100 100 161");
        rows.mark(0, 255, 0);
        Check.due("14: shape alone", Look.alphasAt(rows, 1, 1), "100 255 161");
        rows.cover(1, 1, 77);
        Check.due("14: mask and cover", rows.alpha(1, 1, 3) + " " + rows.alpha(1, 1, 4), "255 77");
        noPoint("14", (x, y, what) -> rows.alpha(x, y, what));
        for (int wrong : new int[] {-1, 5, Integer.MIN_VALUE, Integer.MAX_VALUE}) {
            Check.refused("14: what " + wrong, () -> rows.alpha(0, 0, wrong), ARGUMENT);
            Check.refused("14: the first exception", () -> rows.alpha(3, 0, wrong), INDEX);
        }
    }

    private static void promise15Paper() {
        BlendRows rows = new BlendRows(3, 2);
        Look.paint(rows, 200, 100, 0);
        rows.mark(0, 255, 128);
        // MUL(200, 128) = 100, MUL(100, 128) = 50, and 127 of the paper
        Check.due("15: paper", rows.paper(2, 1, 0) + " " + rows.paper(2, 1, 1) + " " + rows.paper(2, 1, 2), "227 177 127");
        rows.group(false, false);
        Check.due("15: through the backdrop", rows.paper(2, 1, 0), 227);
        rows.group(true, false);
        Check.due("15: through nothing", rows.paper(2, 1, 0), 255);
        noPoint("15", (x, y, band) -> rows.paper(x, y, band));
        noBand("15", (x, y, band) -> rows.paper(x, y, band));
    }

    private static void promise16Separable() {
        BlendRows rows = new BlendRows(1, 1);
        int[][] mixes = {
            {0, 10, 200, 200},
            {1, 100, 200, 78}, {1, 255, 77, 77}, {1, 0, 255, 0},
            {2, 100, 200, 222}, {2, 0, 9, 9},
            {3, 100, 200, 157}, {3, 200, 100, 188},
            {4, 100, 200, 100}, {4, 200, 100, 100},
            {5, 100, 200, 200}, {5, 200, 100, 200},
            {6, 0, 255, 0}, {6, 1, 254, 255}, {6, 55, 200, 255}, {6, 54, 200, 250}, {6, 100, 100, 165},
            {7, 255, 0, 255}, {7, 155, 100, 0}, {7, 156, 100, 3}, {7, 254, 2, 127}, {7, 0, 255, 0},
            {8, 100, 127, 100}, {8, 100, 128, 101}, {8, 200, 100, 157}, {8, 100, 200, 188},
            {9, 100, 127, 100}, {9, 100, 0, 39}, {9, 100, 255, 159}, {9, 100, 128, 100}, {9, 255, 255, 255}, {9, 64, 255, 127},
            {10, 100, 200, 100}, {10, 200, 100, 100}, {10, 5, 5, 0},
            {11, 100, 200, 144}, {11, 255, 255, 0}, {11, 0, 255, 255},
        };
        for (int[] mix : mixes) {
            String what = "16: mode " + mix[0] + " of " + mix[1] + " and " + mix[2];
            Check.due(what, rows.separable(mix[0], mix[1], mix[2]), mix[3]);
        }
        for (int wrong : new int[] {-1, 12, 15, Integer.MIN_VALUE, Integer.MAX_VALUE}) {
            Check.refused("16: mode " + wrong, () -> rows.separable(wrong, 0, 0), ARGUMENT);
        }
        for (int wrong : new int[] {-1, 256, Integer.MIN_VALUE, Integer.MAX_VALUE}) {
            Check.refused("16: b " + wrong, () -> rows.separable(0, wrong, 0), ARGUMENT);
            Check.refused("16: s " + wrong, () -> rows.separable(0, 0, wrong), ARGUMENT);
        }
    }

    private static void promise17Blend() {
        BlendRows rows = new BlendRows(1, 1);
        Check.due("17: bytes", rows.blend(1, Look.packed(100, 255, 0), Look.packed(200, 7, 9)), Look.packed(78, 7, 0));
        Check.due("17: bytes", rows.blend(0, 0, 16777215), 16777215);
        int dull = Look.packed(100, 150, 200);
        int red = Look.packed(255, 0, 0);
        // LUM(100 150 200) = 140, SAT 100: SETSAT(red) = 100 0 0, LUM 30, and 110 are added.
        Check.due("17: hue", rows.blend(12, dull, red), Look.packed(210, 110, 110));
        // SETSAT(dull, 255) = 0 127 255, LUM 102, 38 are added: 293 above 255, L = 140:
        // 140 + -102 * 115 / 153 = 63, 140 + 25 * 115 / 153 = 158
        Check.due("17: saturation", rows.blend(13, dull, red), Look.packed(63, 158, 255));
        // 64 are added to red (LUM 76): 319 64 64, L = 140: 140 + -76 * 115 / 179 = 91
        Check.due("17: colour", rows.blend(14, dull, red), Look.packed(255, 91, 91));
        // -64 are added: 36 86 136
        Check.due("17: lightness", rows.blend(15, dull, red), Look.packed(36, 86, 136));
        // LUM(0 0 255) = 28, 20 less: -20 -20 235, L = 8: 8 + -28 * 8 / 28 = 0, 8 + 227 * 8 / 28 = 72
        Check.due("17: below 0", rows.blend(14, Look.packed(8, 8, 8), Look.packed(0, 0, 255)), Look.packed(0, 0, 72));
        // LUM(9 0 0) = 2, one less: 8 -1 -1, L = 1: 1 + 7 / 2 = 4
        Check.due("17: below 0", rows.blend(14, Look.packed(1, 1, 1), Look.packed(9, 0, 0)), Look.packed(4, 0, 0));
        Check.due("17: a grey has no hue", rows.blend(12, dull, Look.packed(9, 9, 9)), Look.packed(140, 140, 140));
        Check.due("17: a grey has no saturation", rows.blend(13, Look.packed(9, 9, 9), red), Look.packed(9, 9, 9));
        for (int wrong : new int[] {-1, 16, Integer.MIN_VALUE, Integer.MAX_VALUE}) {
            Check.refused("17: mode " + wrong, () -> rows.blend(wrong, 0, 0), ARGUMENT);
        }
        for (int wrong : new int[] {-1, 16777216, Integer.MIN_VALUE, Integer.MAX_VALUE}) {
            Check.refused("17: b " + wrong, () -> rows.blend(0, wrong, 0), ARGUMENT);
            Check.refused("17: s " + wrong, () -> rows.blend(0, 0, wrong), ARGUMENT);
        }
    }
}
