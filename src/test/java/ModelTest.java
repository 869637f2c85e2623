import java.util.ArrayList;
import java.util.List;
import java.util.Random;

/**
 * Runs of calls, always the same ones, on an object and on a plain model of the document that is
 * built otherwise (bands in rows of longs, a list of groups): all answers must be alike.
 */
public final class ModelTest {
    private static final int RUNS = 3000;
    private static final int CALLS = 512;
    private static final int[] EDGES = {
        -1, 256, 0, 1, 127, 128, 254, 255, Integer.MIN_VALUE, Integer.MAX_VALUE, 0, 255, 255, 255,
    };
    private final Random dice;

    private ModelTest(long seed) {
        dice = new Random(seed);
    }

    public static void main(String[] args) {
        blendingOfAllBytes();
        for (int run = 0; run < RUNS; run++) {
            new ModelTest(run).run(run);
        }
        Check.end();
    }

    private static void blendingOfAllBytes() {
        for (int mode = 0; mode <= 11; mode++) {
            long differ = 0;
            for (int b = 0; b < 256; b++) {
                // An object is good for 512 calls.
                BlendRows rows = new BlendRows(1, 1);
                for (int s = 0; s < 256; s++) {
                    differ += rows.separable(mode, b, s) == Model.bytes(mode, b, s) ? 0 : 1;
                }
            }
            Check.due("bytes that differ in mode " + mode, differ, 0L);
        }
    }

    private void run(int run) {
        int w = dice.nextInt(4) == 0 ? dice.nextInt(16) - 2 : 1 + dice.nextInt(3);
        int h = dice.nextInt(4) == 0 ? dice.nextInt(16) - 2 : 1 + dice.nextInt(2);
        BlendRows rows = new BlendRows(w, h);
        Model model = new Model(w, h);
        int wrongArguments = dice.nextInt(3) == 0 ? 10 : 400;
        for (int i = 0; i < CALLS; i++) {
            if (!sameAnswer(rows, model, wrongArguments, "run " + run + " call " + i)) {
                return;
            }
        }
    }

    private boolean sameAnswer(BlendRows rows, Model model, int wrongArguments, String where) {
        int kind = dice.nextInt(100);
        int[] p = new int[5];
        boolean yes = dice.nextBoolean();
        boolean no = dice.nextInt(3) == 0;
        String name;
        if (kind < 5) {
            name = "told";
            p[0] = one(0, 5, wrongArguments);
        } else if (kind < 6) {
            name = "bound";
            p[0] = one(1, 6, wrongArguments);
        } else if (kind < 15) {
            name = "group";
        } else if (kind < 22) {
            name = "end";
            p[0] = one(0, 15, wrongArguments);
            p[1] = byteOr(wrongArguments);
        } else if (kind < 24) {
            name = "mask";
            p[0] = one(1, 2, wrongArguments);
        } else if (kind < 26) {
            name = "unmask";
        } else if (kind < 34) {
            name = "colour";
            p[0] = one(0, 2, wrongArguments);
            p[1] = byteOr(wrongArguments);
        } else if (kind < 37) {
            name = "stays";
            p[0] = one(0, 2, wrongArguments);
            yes = no;
        } else if (kind < 41) {
            name = "cover";
            place(model, p, wrongArguments);
            p[2] = byteOr(wrongArguments);
        } else if (kind < 43) {
            name = "fill";
            for (int i = 0; i < 4; i++) {
                p[i] = one(-2, 13, wrongArguments);
            }
            p[4] = byteOr(wrongArguments);
        } else if (kind < 60) {
            name = "mark";
            p[0] = one(0, 15, wrongArguments);
            p[1] = byteOr(wrongArguments);
            p[2] = byteOr(wrongArguments);
        } else if (kind < 75) {
            name = "point";
            place(model, p, wrongArguments);
            p[2] = one(0, 2, wrongArguments);
        } else if (kind < 87) {
            name = "alpha";
            place(model, p, wrongArguments);
            p[2] = one(0, 4, wrongArguments);
        } else if (kind < 92) {
            name = "paper";
            place(model, p, wrongArguments);
            p[2] = one(0, 2, wrongArguments);
        } else if (kind < 94) {
            name = "separable";
            p[0] = one(0, 11, wrongArguments);
            p[1] = byteOr(wrongArguments);
            p[2] = byteOr(wrongArguments);
        } else {
            name = "blend";
            p[0] = one(10, 15, wrongArguments);
            p[1] = colourOr(wrongArguments);
            p[2] = colourOr(wrongArguments);
        }
        boolean first = yes;
        boolean second = no;
        String got = Check.answerOf((Check.Call) () -> asked(rows, name, p, first, second));
        String want = model.asked(name, p, first, second);
        Check.due(where + " " + name + java.util.Arrays.toString(p) + first + second, got, want);
        return got.equals(want);
    }

    private int one(int least, int most, int wrongArguments) {
        if (dice.nextInt(wrongArguments) == 0) {
            return EDGES[dice.nextInt(EDGES.length)];
        }
        if (dice.nextInt(wrongArguments) == 0) {
            return dice.nextBoolean() ? least - 1 : most + 1;
        }
        return least + dice.nextInt(most - least + 1);
    }

    private int byteOr(int wrongArguments) {
        if (dice.nextInt(3) != 0) {
            return one(0, 255, wrongArguments);
        }
        return Math.min(255, Math.max(0, EDGES[dice.nextInt(EDGES.length)]));
    }

    private int colourOr(int wrongArguments) {
        if (dice.nextInt(wrongArguments) == 0) {
            return dice.nextBoolean() ? 16777216 : dice.nextInt();
        }
        return byteOr(1 << 20) | byteOr(1 << 20) << 8 | byteOr(1 << 20) << 16;
    }

    private void place(Model model, int[] p, int wrongArguments) {
        p[0] = one(0, model.width - 1, wrongArguments);
        p[1] = one(0, model.height - 1, wrongArguments);
    }

    private static int asked(BlendRows rows, String name, int[] p, boolean yes, boolean no) {
        switch (name) {
            case "told":
                return rows.told(p[0]);
            case "bound":
                rows.bound(p[0]);
                return 0;
            case "group":
                return rows.group(yes, no);
            case "end":
                return rows.end(p[0], p[1]);
            case "mask":
                return rows.mask(p[0], yes);
            case "unmask":
                rows.unmask();
                return 0;
            case "colour":
                rows.colour(p[0], p[1]);
                return 0;
            case "stays":
                rows.stays(p[0], yes);
                return 0;
            case "cover":
                rows.cover(p[0], p[1], p[2]);
                return 0;
            case "fill":
                rows.fill(p[0], p[1], p[2], p[3], p[4]);
                return 0;
            case "mark":
                return rows.mark(p[0], p[1], p[2]);
            case "point":
                return rows.point(p[0], p[1], p[2]);
            case "alpha":
                return rows.alpha(p[0], p[1], p[2]);
            case "paper":
                return rows.paper(p[0], p[1], p[2]);
            case "separable":
                return rows.separable(p[0], p[1], p[2]);
            default:
                return rows.blend(p[0], p[1], p[2]);
        }
    }

    /** What the document calls a group at one point. */
    private static final class Spot {
        final long[] c0 = new long[3];
        long a0;
        final long[] c = new long[3];
        long g;
        long f;

        long a() {
            return a0 + g - Model.mul(a0, g);
        }
    }

    private static final class Group {
        boolean flat;
        boolean knockout;
        Spot[][] spots;
    }

    /** The document, sentence by sentence. */
    private static final class Model {
        final int width;
        final int height;
        final List<Group> groups = new ArrayList<>();
        final long[] colour = new long[3];
        final boolean[] stays = new boolean[3];
        final long[][] cover;
        long[][] mask;
        int bound = 6;
        int made;

        Model(int w, int h) {
            width = w < 1 ? 1 : w > 12 ? 12 : w;
            height = h < 1 ? 1 : h > 12 ? 12 : h;
            cover = new long[width][height];
            for (long[] column : cover) {
                java.util.Arrays.fill(column, 255);
            }
            begin(true, false);
        }

        static long mul(long a, long b) {
            return down(a * b + 127, 255);
        }

        static long down(long n, long d) {
            long q = n / d;
            return q * d > n ? q - 1 : q;
        }

        String asked(String name, int[] p, boolean yes, boolean no) {
            String refusal = refusal(name, p);
            return refusal.isEmpty() ? Long.toString(answer(name, p, yes, no)) : "throws." + refusal;
        }

        private String refusal(String name, int[] p) {
            String state = "IllegalStateException";
            String argument = "IllegalArgumentException";
            String index = "ArrayIndexOutOfBoundsException";
            boolean noPoint = p[0] < 0 || p[1] < 0 || p[0] >= width || p[1] >= height;
            boolean noBand = p[2] < 0 || p[2] > 2;
            boolean noFirstBand = p[0] < 0 || p[0] > 2;
            switch (name) {
                case "told":
                    return p[0] < 0 || p[0] > 5 ? argument : "";
                case "bound":
                    return p[0] < 1 || p[0] > 6 ? argument : "";
                case "group":
                    return groups.size() == 40 ? "UnsupportedOperationException" : "";
                case "end":
                    return groups.size() == 1 ? state : noMode(p[0], 15) || noByte(p[1]) ? argument : "";
                case "mask":
                    return groups.size() == 1 ? state : p[0] != 1 && p[0] != 2 ? argument : "";
                case "colour":
                    return noByte(p[1]) ? argument : noFirstBand ? index : "";
                case "stays":
                    return noFirstBand ? index : "";
                case "cover":
                    return noByte(p[2]) ? argument : noPoint ? index : "";
                case "fill":
                    return noByte(p[4]) ? argument : "";
                case "mark":
                    return noMode(p[0], 15) || noByte(p[1]) || noByte(p[2]) ? argument : "";
                case "point":
                case "paper":
                    return noPoint || noBand ? index : "";
                case "alpha":
                    return noPoint ? index : p[2] < 0 || p[2] > 4 ? argument : "";
                case "separable":
                    return noMode(p[0], 11) || noByte(p[1]) || noByte(p[2]) ? argument : "";
                case "blend":
                    return noMode(p[0], 15) || p[1] >>> 24 != 0 || p[2] >>> 24 != 0 ? argument : "";
                default:
                    return "";
            }
        }

        private static boolean noByte(int v) {
            return (v & ~255) != 0;
        }

        private static boolean noMode(int mode, int last) {
            return mode < 0 || mode > last;
        }

        private long answer(String name, int[] p, boolean yes, boolean no) {
            switch (name) {
                case "told":
                    return new long[] {width, height, groups.size(), bound, mask == null ? 0 : 1, made}[p[0]];
                case "bound":
                    bound = p[0];
                    return 0;
                case "group":
                    begin(yes, no);
                    return groups.size();
                case "end":
                    end(p[0], p[1]);
                    return groups.size();
                case "mask":
                    endAsMask(p[0], yes);
                    return groups.size();
                case "unmask":
                    mask = null;
                    return 0;
                case "colour":
                    colour[p[0]] = p[1];
                    return 0;
                case "stays":
                    stays[p[0]] = yes;
                    return 0;
                case "cover":
                    cover[p[0]][p[1]] = p[2];
                    return 0;
                case "fill":
                    fill(p);
                    return 0;
                case "mark":
                    return mark(p[0], p[1], p[2]);
                case "point":
                    return spot(p).c[p[2]];
                case "alpha":
                    return new long[] {
                        spot(p).g, spot(p).f, spot(p).a(), mask == null ? 255 : mask[p[0]][p[1]], cover[p[0]][p[1]],
                    }[p[2]];
                case "paper":
                    return mul(spot(p).c[p[2]], spot(p).a()) + 255 - spot(p).a();
                case "separable":
                    return bytes(p[0], p[1], p[2]);
                default:
                    long[] mixed = colours(p[0], split(p[1]), split(p[2]));
                    return mixed[0] + 256 * mixed[1] + 65536 * mixed[2];
            }
        }

        private static long[] split(int colour) {
            return new long[] {colour % 256, colour / 256 % 256, colour / 65536};
        }

        private Group there() {
            for (int i = groups.size() - 1; i > 0; i--) {
                if (!groups.get(i).flat) {
                    return groups.get(i);
                }
            }
            return groups.get(0);
        }

        private Spot spot(int[] p) {
            return there().spots[p[0]][p[1]];
        }

        private void begin(boolean isolated, boolean knockout) {
            Group next = new Group();
            int depth = groups.size();
            next.flat = depth + 1 > bound || depth > 0 && groups.get(depth - 1).flat;
            next.knockout = knockout;
            next.spots = new Spot[width][height];
            for (int x = 0; x < width && !next.flat; x++) {
                for (int y = 0; y < height; y++) {
                    Spot spot = new Spot();
                    if (!isolated) {
                        Spot around = there().spots[x][y];
                        System.arraycopy(around.c, 0, spot.c0, 0, 3);
                        System.arraycopy(around.c, 0, spot.c, 0, 3);
                        spot.a0 = around.a();
                    }
                    next.spots[x][y] = spot;
                }
            }
            groups.add(next);
        }

        private void end(int mode, int opacity) {
            Group ended = groups.remove(groups.size() - 1);
            if (ended.flat) {
                return;
            }
            for (int x = 0; x < width; x++) {
                for (int y = 0; y < height; y++) {
                    Spot from = ended.spots[x][y];
                    long a = Math.min(mul(from.g, opacity), from.f);
                    a = mask == null ? a : mul(a, mask[x][y]);
                    put(there(), there().spots[x][y], result(from), new long[] {from.f, a}, mode);
                }
            }
            made++;
        }

        private void endAsMask(int kind, boolean turned) {
            Group ended = groups.remove(groups.size() - 1);
            if (ended.flat) {
                return;
            }
            mask = new long[width][height];
            for (int x = 0; x < width; x++) {
                for (int y = 0; y < height; y++) {
                    Spot from = ended.spots[x][y];
                    long[] seen = result(from);
                    for (int i = 0; i < 3; i++) {
                        seen[i] = mul(seen[i], from.g);
                    }
                    long v = kind == 1 ? from.g : lum(seen);
                    mask[x][y] = turned ? 255 - v : v;
                }
            }
        }

        private static long[] result(Spot from) {
            long[] colour = new long[3];
            for (int i = 0; i < 3 && from.g > 0; i++) {
                long apart = (from.c[i] - from.c0[i]) * (from.a0 * 255 - from.a0 * from.g);
                long quotient = Long.signum(apart) * down(Math.abs(apart), 255 * from.g);
                colour[i] = Math.min(255, Math.max(0, from.c[i] + quotient));
            }
            return colour;
        }

        private void fill(int[] p) {
            for (int x = 0; x < width; x++) {
                for (int y = 0; y < height; y++) {
                    if (p[0] <= x && x <= p[2] && p[1] <= y && y <= p[3]) {
                        cover[x][y] = p[4];
                    }
                }
            }
        }

        private long mark(int mode, int shape, int opacity) {
            long seen = 0;
            for (int x = 0; x < width; x++) {
                for (int y = 0; y < height; y++) {
                    long f = mul(cover[x][y], shape);
                    long a = mul(f, opacity);
                    a = mask == null ? a : mul(a, mask[x][y]);
                    put(there(), there().spots[x][y], colour, new long[] {f, a}, mode);
                    seen += Long.signum(a);
                }
            }
            made++;
            return seen;
        }

        private void put(Group on, Spot at, long[] s, long[] shapeAndAlpha, int mode) {
            long f = shapeAndAlpha[0];
            long a = shapeAndAlpha[1];
            if (f == 0) {
                return;
            }
            long[] b = (on.knockout ? at.c0 : at.c).clone();
            long under = on.knockout ? at.a0 : at.a();
            long h = on.knockout ? 0 : at.g;
            long before = at.a();
            at.g = down((255 - f) * at.g + (f - a) * h + 255 * a + 127, 255);
            at.f = at.f + f - mul(at.f, f);
            long now = at.a();
            long[] mixed = colours(mode, b, s);
            for (int i = 0; i < 3 && now > 0; i++) {
                long top = stays[i] ? b[i] : s[i];
                long mix = stays[i] ? b[i] : mixed[i];
                long sum = (255 - f) * before * at.c[i] + (f - a) * under * b[i]
                        + a * ((255 - under) * top + under * mix) + down(255 * now, 2);
                at.c[i] = Math.min(255, down(sum, 255 * now));
            }
        }

        static long bytes(int mode, long b, long s) {
            switch (mode) {
                case 0:
                    return s;
                case 1:
                    return mul(b, s);
                case 2:
                    return b + s - mul(b, s);
                case 3:
                    return bytes(8, s, b);
                case 4:
                    return b < s ? b : s;
                case 5:
                    return b > s ? b : s;
                case 6:
                    return b == 0 ? 0 : b + s >= 255 ? 255 : down(255 * b + down(255 - s, 2), 255 - s);
                case 7:
                    return b == 255 ? 255 : b + s <= 255 ? 0 : 255 - down(255 * (255 - b) + down(s, 2), s);
                case 8:
                    return s <= 127 ? mul(b, 2 * s) : bytes(2, b, 2 * s - 255);
                case 9:
                    if (s <= 127) {
                        return b - down((255 - 2 * s) * mul(b, 255 - b) + 127, 255);
                    }
                    long d = 0;
                    while ((d + 1) * (d + 1) <= 255 * b) {
                        d++;
                    }
                    return b + down((2 * s - 255) * (d - b) + 127, 255);
                case 10:
                    return b > s ? b - s : s - b;
                default:
                    return Math.max(0, b + s - 2 * mul(b, s));
            }
        }

        static long[] colours(int mode, long[] b, long[] s) {
            switch (mode) {
                case 12:
                    return setLum(setSat(s, sat(b)), lum(b));
                case 13:
                    return setLum(setSat(b, sat(s)), lum(b));
                case 14:
                    return setLum(s, lum(b));
                case 15:
                    return setLum(b, lum(s));
                default:
                    long[] mixed = new long[3];
                    for (int i = 0; i < 3; i++) {
                        mixed[i] = bytes(mode, b[i], s[i]);
                    }
                    return mixed;
            }
        }

        static long lum(long[] c) {
            return down(30 * c[0] + 59 * c[1] + 11 * c[2], 100);
        }

        static long least(long[] c) {
            return Math.min(c[0], Math.min(c[1], c[2]));
        }

        static long greatest(long[] c) {
            return Math.max(c[0], Math.max(c[1], c[2]));
        }

        static long sat(long[] c) {
            return greatest(c) - least(c);
        }

        static long[] setSat(long[] c, long v) {
            long[] set = new long[3];
            for (int i = 0; i < 3 && sat(c) > 0; i++) {
                set[i] = down((c[i] - least(c)) * v, sat(c));
            }
            return set;
        }

        static long[] setLum(long[] c, long l) {
            long[] moved = new long[3];
            for (int i = 0; i < 3; i++) {
                moved[i] = c[i] + l - lum(c);
            }
            long[] set = moved.clone();
            long light = lum(moved);
            long n = least(moved);
            long m = greatest(moved);
            for (int i = 0; i < 3; i++) {
                if (n < 0) {
                    set[i] = light + down((moved[i] - light) * light, light - n);
                }
                if (m > 255) {
                    set[i] = light + down((moved[i] - light) * (255 - light), m - light);
                }
                set[i] = Math.max(0, Math.min(255, set[i]));
            }
            return set;
        }
    }
}
