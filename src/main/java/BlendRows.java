/**
 * Marks and groups of marks laid one over the other on a small page that may be seen through.
 *
 * A colour is kept as one int, its first band in the lowest byte, so that no call has to make
 * arrays: all rows are made once, in the constructor, and used again.
 */
public final class BlendRows {
    private static final int LONGEST_SIDE = 12;
    private static final int MOST_BOUND = 6;
    private static final int DEEPEST = 40;
    private static final int BANDS = 3;
    private static final int ONE = 255;
    private static final int GREATEST_COLOUR = 16777215;
    private static final int LAST_MODE = 15;
    private static final int LAST_MODE_OF_BYTES = 11;
    private static final int MASK_BY_ALPHA = 1;
    private static final int MASK_BY_LUM = 2;

    private final int width;
    private final int height;
    private final int points;
    private final int[] covers;
    private final int[] maskBytes;
    private final Layer[] layers;
    private boolean masked;
    private int paint;
    private int stayingBands;
    private int boundNow;
    private int depth;
    // Flat groups can only lie on top of real ones, so two numbers tell which are which.
    private int realGroups;
    private int made;

    public BlendRows(int width, int height) {
        this.width = Math.max(1, Math.min(LONGEST_SIDE, width));
        this.height = Math.max(1, Math.min(LONGEST_SIDE, height));
        points = this.width * this.height;
        covers = new int[points];
        maskBytes = new int[points];
        layers = new Layer[MOST_BOUND];
        for (int i = 0; i < MOST_BOUND; i++) {
            layers[i] = new Layer(points);
        }
        for (int at = 0; at < points; at++) {
            covers[at] = ONE;
        }
        boundNow = MOST_BOUND;
        depth = 1;
        realGroups = 1;
    }

    public int told(int what) throws IllegalArgumentException {
        switch (what) {
            case 0:
                return width;
            case 1:
                return height;
            case 2:
                return depth;
            case 3:
                return boundNow;
            case 4:
                return masked ? 1 : 0;
            case 5:
                return made;
            default:
                throw new IllegalArgumentException("nothing is told of that");
        }
    }

    public void bound(int most) throws IllegalArgumentException {
        if (most < 1 || most > MOST_BOUND) {
            throw new IllegalArgumentException("a bound is 1 .. 6");
        }
        boundNow = most;
    }

    public int group(boolean isolated, boolean knockout) throws UnsupportedOperationException {
        if (depth >= DEEPEST) {
            throw new UnsupportedOperationException("no group goes deeper");
        }
        boolean flat = hereIsFlat() || depth >= boundNow;
        if (!flat) {
            layers[realGroups].begin(here(), isolated, knockout);
            realGroups++;
        }
        depth++;
        return depth;
    }

    public int end(int mode, int opacity) throws IllegalStateException, IllegalArgumentException {
        needGroup();
        needMode(mode, LAST_MODE);
        needByte(opacity);
        if (!hereIsFlat()) {
            Layer ended = leave();
            for (int at = 0; at < points; at++) {
                int shape = ended.shapeAt(at);
                int alpha = Math.min(Sums.mul(ended.ownAlpha(at), opacity), shape);
                here().put(at, ended.result(at), shape, leftByMask(at, alpha), mode, stayingBands);
            }
            made++;
        }
        depth--;
        return depth;
    }

    public int mask(int kind, boolean turned) throws IllegalStateException, IllegalArgumentException {
        needGroup();
        if (kind != MASK_BY_ALPHA && kind != MASK_BY_LUM) {
            throw new IllegalArgumentException("a mask is of kind 1 or 2");
        }
        if (!hereIsFlat()) {
            Layer ended = leave();
            for (int at = 0; at < points; at++) {
                int v = kind == MASK_BY_ALPHA ? ended.ownAlpha(at) : ended.resultLum(at);
                maskBytes[at] = turned ? ONE - v : v;
            }
            masked = true;
        }
        depth--;
        return depth;
    }

    public void unmask() {
        masked = false;
    }

    public void colour(int band, int v) throws IllegalArgumentException, ArrayIndexOutOfBoundsException {
        needByte(v);
        needBand(band);
        paint = (paint & ~(ONE << (8 * band))) | (v << (8 * band));
    }

    public void stays(int band, boolean is) throws ArrayIndexOutOfBoundsException {
        needBand(band);
        int bit = 1 << band;
        stayingBands = is ? stayingBands | bit : stayingBands & ~bit;
    }

    public void cover(int x, int y, int v) throws IllegalArgumentException, ArrayIndexOutOfBoundsException {
        needByte(v);
        needPoint(x, y);
        covers[y * width + x] = v;
    }

    public void fill(int x, int y, int x2, int y2, int v) throws IllegalArgumentException {
        needByte(v);
        int right = Math.min(x2, width - 1);
        int bottom = Math.min(y2, height - 1);
        for (int row = Math.max(y, 0); row <= bottom; row++) {
            for (int column = Math.max(x, 0); column <= right; column++) {
                covers[row * width + column] = v;
            }
        }
    }

    public int mark(int mode, int shape, int opacity) throws IllegalArgumentException {
        needMode(mode, LAST_MODE);
        needByte(shape);
        needByte(opacity);
        Layer here = here();
        int seen = 0;
        for (int at = 0; at < points; at++) {
            int shapeThere = Sums.mul(covers[at], shape);
            int alpha = leftByMask(at, Sums.mul(shapeThere, opacity));
            here.put(at, paint, shapeThere, alpha, mode, stayingBands);
            if (alpha > 0) {
                seen++;
            }
        }
        made++;
        return seen;
    }

    public int point(int x, int y, int band) throws ArrayIndexOutOfBoundsException {
        needPoint(x, y);
        needBand(band);
        return Sums.bandOf(here().colourAt(y * width + x), band);
    }

    public int alpha(int x, int y, int what) throws ArrayIndexOutOfBoundsException, IllegalArgumentException {
        needPoint(x, y);
        int at = y * width + x;
        switch (what) {
            case 0:
                return here().ownAlpha(at);
            case 1:
                return here().shapeAt(at);
            case 2:
                return here().wholeAlpha(at);
            case 3:
                return masked ? maskBytes[at] : ONE;
            case 4:
                return covers[at];
            default:
                throw new IllegalArgumentException("a point has no such alpha");
        }
    }

    public int paper(int x, int y, int band) throws ArrayIndexOutOfBoundsException {
        needPoint(x, y);
        needBand(band);
        int at = y * width + x;
        int whole = here().wholeAlpha(at);
        return Sums.mul(Sums.bandOf(here().colourAt(at), band), whole) + ONE - whole;
    }

    public int separable(int mode, int b, int s) throws IllegalArgumentException {
        needMode(mode, LAST_MODE_OF_BYTES);
        needByte(b);
        needByte(s);
        return Modes.ofBytes(mode, b, s);
    }

    public int blend(int mode, int b, int s) throws IllegalArgumentException {
        needMode(mode, LAST_MODE);
        needColour(b);
        needColour(s);
        return Modes.ofColours(mode, b, s);
    }

    private boolean hereIsFlat() {
        return depth > realGroups;
    }

    private Layer here() {
        return layers[realGroups - 1];
    }

    /** The group that was here; what lies around it is here from now on. */
    private Layer leave() {
        Layer left = here();
        realGroups--;
        return left;
    }

    private int leftByMask(int at, int alpha) {
        return masked ? Sums.mul(alpha, maskBytes[at]) : alpha;
    }

    private void needGroup() {
        if (depth <= 1) {
            throw new IllegalStateException("the page never ends");
        }
    }

    private void needPoint(int x, int y) {
        if (x < 0 || x >= width || y < 0 || y >= height) {
            throw new ArrayIndexOutOfBoundsException("the page has no such point");
        }
    }

    private static void needBand(int band) {
        if (band < 0 || band >= BANDS) {
            throw new ArrayIndexOutOfBoundsException("a colour has no such band");
        }
    }

    private static void needByte(int v) {
        if (v < 0 || v > ONE) {
            throw new IllegalArgumentException("a byte is 0 .. 255");
        }
    }

    private static void needColour(int v) {
        if (v < 0 || v > GREATEST_COLOUR) {
            throw new IllegalArgumentException("a colour is 0 .. 16777215");
        }
    }

    private static void needMode(int mode, int last) {
        if (mode < 0 || mode > last) {
            throw new IllegalArgumentException("there is no such mode");
        }
    }

    /** A group, or the page. A new one has the page's backdrop: none. */
    private static final class Layer {
        private final int size;
        private final int[] backColours;
        private final int[] backAlphas;
        private final int[] colours;
        private final int[] ownAlphas;
        private final int[] shapes;
        private boolean knocksOut;

        Layer(int size) {
            this.size = size;
            backColours = new int[size];
            backAlphas = new int[size];
            colours = new int[size];
            ownAlphas = new int[size];
            shapes = new int[size];
        }

        void begin(Layer around, boolean isolated, boolean knockout) {
            knocksOut = knockout;
            for (int at = 0; at < size; at++) {
                backColours[at] = isolated ? 0 : around.colourAt(at);
                backAlphas[at] = isolated ? 0 : around.wholeAlpha(at);
                colours[at] = backColours[at];
                ownAlphas[at] = 0;
                shapes[at] = 0;
            }
        }

        int colourAt(int at) {
            return colours[at];
        }

        int ownAlpha(int at) {
            return ownAlphas[at];
        }

        int shapeAt(int at) {
            return shapes[at];
        }

        int wholeAlpha(int at) {
            return Sums.union(backAlphas[at], ownAlphas[at]);
        }

        void put(int at, int top, int f, int a, int mode, int staying) {
            if (f == 0) {
                return;
            }
            int before = wholeAlpha(at);
            int below = knocksOut ? backColours[at] : colours[at];
            int alphaBelow = knocksOut ? backAlphas[at] : before;
            int ownBelow = knocksOut ? 0 : ownAlphas[at];
            ownAlphas[at] = ((ONE - f) * ownAlphas[at] + (f - a) * ownBelow + ONE * a + 127) / ONE;
            shapes[at] = Sums.union(shapes[at], f);
            int after = wholeAlpha(at);
            if (after == 0) {
                return;
            }
            int mixed = Modes.ofColours(mode, below, top);
            int colour = 0;
            for (int band = 0; band < BANDS; band++) {
                int b = Sums.bandOf(below, band);
                boolean stays = ((staying >> band) & 1) == 1;
                int laid = stays ? ONE * b
                        : (ONE - alphaBelow) * Sums.bandOf(top, band) + alphaBelow * Sums.bandOf(mixed, band);
                int sum = (ONE - f) * before * Sums.bandOf(colours[at], band) + (f - a) * alphaBelow * b + a * laid;
                colour |= Sums.nearest(sum, ONE * after) << (8 * band);
            }
            colours[at] = colour;
        }

        /** The colour to put on the group around, which has the backdrop already: without the backdrop's part. */
        int result(int at) {
            return Sums.packed(resultBand(at, 0), resultBand(at, 1), resultBand(at, 2));
        }

        private int resultBand(int at, int band) {
            int own = ownAlphas[at];
            if (own <= 0) {
                return 0;
            }
            int c = Sums.bandOf(colours[at], band);
            int apart = c - Sums.bandOf(backColours[at], band);
            // Java's own quotient goes toward 0, which the document asks for here and nowhere else.
            return Sums.within(c + apart * (backAlphas[at] * (ONE - own)) / (ONE * own));
        }

        int resultLum(int at) {
            int colour = result(at);
            int own = ownAlphas[at];
            return Sums.lum(
                    Sums.mul(Sums.bandOf(colour, 0), own),
                    Sums.mul(Sums.bandOf(colour, 1), own),
                    Sums.mul(Sums.bandOf(colour, 2), own));
        }
    }

    private static final class Sums {
        static int mul(int a, int b) {
            return (a * b + 127) / ONE;
        }

        static int union(int a, int b) {
            return a + b - mul(a, b);
        }

        static int within(int v) {
            return Math.max(0, Math.min(ONE, v));
        }

        static int nearest(int sum, int parts) {
            if (parts <= 0) {
                return 0;
            }
            return Math.min(ONE, (sum + parts / 2) / parts);
        }

        static int bandOf(int colour, int band) {
            return (colour >> (8 * band)) & ONE;
        }

        static int packed(int r, int g, int b) {
            return r | (g << 8) | (b << 16);
        }

        static int lum(int r, int g, int b) {
            return Math.floorDiv(30 * r + 59 * g + 11 * b, 100);
        }
    }

    private static final class Modes {
        static int ofBytes(int mode, int b, int s) {
            switch (mode) {
                case 1:
                    return Sums.mul(b, s);
                case 2:
                    return Sums.union(b, s);
                case 3:
                    return hardLight(s, b);
                case 4:
                    return Math.min(b, s);
                case 5:
                    return Math.max(b, s);
                case 6:
                    return dodge(b, s);
                case 7:
                    return burn(b, s);
                case 8:
                    return hardLight(b, s);
                case 9:
                    return softLight(b, s);
                case 10:
                    return Math.max(b, s) - Math.min(b, s);
                case 11:
                    return Math.max(0, b + s - 2 * Sums.mul(b, s));
                default:
                    return s;
            }
        }

        static int ofColours(int mode, int below, int top) {
            switch (mode) {
                case 12:
                    return withLum(withSat(top, satOf(below)), lumOf(below));
                case 13:
                    return withLum(withSat(below, satOf(top)), lumOf(below));
                case 14:
                    return withLum(top, lumOf(below));
                case 15:
                    return withLum(below, lumOf(top));
                default:
                    return Sums.packed(
                            ofBytes(mode, Sums.bandOf(below, 0), Sums.bandOf(top, 0)),
                            ofBytes(mode, Sums.bandOf(below, 1), Sums.bandOf(top, 1)),
                            ofBytes(mode, Sums.bandOf(below, 2), Sums.bandOf(top, 2)));
            }
        }

        private static int dodge(int b, int s) {
            if (b == 0) {
                return 0;
            }
            int rest = ONE - s;
            if (b >= rest || rest <= 0) {
                return ONE;
            }
            return (ONE * b + rest / 2) / rest;
        }

        private static int burn(int b, int s) {
            if (b == ONE) {
                return ONE;
            }
            if (b + s <= ONE || s <= 0) {
                return 0;
            }
            return ONE - (ONE * (ONE - b) + s / 2) / s;
        }

        private static int hardLight(int b, int s) {
            return s <= 127 ? Sums.mul(b, 2 * s) : Sums.union(b, 2 * s - ONE);
        }

        private static int softLight(int b, int s) {
            if (s <= 127) {
                return b - Sums.mul(ONE - 2 * s, Sums.mul(b, ONE - b));
            }
            return b + Sums.mul(2 * s - ONE, rootOf(ONE * b) - b);
        }

        private static int rootOf(int v) {
            int root = 0;
            // v is 255 * 255 at most, so the root has eight bits.
            for (int bit = 128; bit > 0; bit >>= 1) {
                int next = root + bit;
                if (next * next <= v) {
                    root = next;
                }
            }
            return root;
        }

        private static int lumOf(int colour) {
            return Sums.lum(Sums.bandOf(colour, 0), Sums.bandOf(colour, 1), Sums.bandOf(colour, 2));
        }

        private static int leastOf(int r, int g, int b) {
            return Math.min(r, Math.min(g, b));
        }

        private static int mostOf(int r, int g, int b) {
            return Math.max(r, Math.max(g, b));
        }

        private static int satOf(int colour) {
            int r = Sums.bandOf(colour, 0);
            int g = Sums.bandOf(colour, 1);
            int b = Sums.bandOf(colour, 2);
            return mostOf(r, g, b) - leastOf(r, g, b);
        }

        private static int withSat(int colour, int v) {
            int sat = satOf(colour);
            if (sat <= 0) {
                return 0;
            }
            int r = Sums.bandOf(colour, 0);
            int g = Sums.bandOf(colour, 1);
            int b = Sums.bandOf(colour, 2);
            int least = leastOf(r, g, b);
            return Sums.packed((r - least) * v / sat, (g - least) * v / sat, (b - least) * v / sat);
        }

        private static int withLum(int colour, int l) {
            int more = l - lumOf(colour);
            int r = Sums.bandOf(colour, 0) + more;
            int g = Sums.bandOf(colour, 1) + more;
            int b = Sums.bandOf(colour, 2) + more;
            int lum = Sums.lum(r, g, b);
            int least = leastOf(r, g, b);
            int most = mostOf(r, g, b);
            return Sums.packed(
                    drawnIn(r, lum, least, most),
                    drawnIn(g, lum, least, most),
                    drawnIn(b, lum, least, most));
        }

        private static int drawnIn(int band, int lum, int least, int most) {
            int c = band;
            if (least < 0 && least < lum) {
                c = lum + Math.floorDiv((c - lum) * lum, lum - least);
            }
            if (most > ONE && most > lum) {
                c = lum + Math.floorDiv((c - lum) * (ONE - lum), most - lum);
            }
            return Sums.within(c);
        }
    }
}
