import java.util.ArrayList;
import java.util.List;

/**
 * "A call that throws changes nothing; where several exceptions that a call names fit, it is the one
 * that it names first." Each refused call is made on one of two objects with the same past; both
 * must look alike then, and go on alike.
 */
public final class RefusedCallsTest {
    private static final String STATE = "throws.IllegalStateException";
    private static final String ARGUMENT = "throws.IllegalArgumentException";
    private static final String INDEX = "throws.ArrayIndexOutOfBoundsException";
    private static final String UNSUPPORTED = "throws.UnsupportedOperationException";
    private static final int[] FAR = {Integer.MIN_VALUE, Integer.MAX_VALUE};

    private interface Past {
        BlendRows made();
    }

    private interface Act {
        void on(BlendRows rows);
    }

    private static final class Refused {
        final String name;
        final String want;
        final Act act;

        Refused(String name, String want, Act act) {
            this.name = name;
            this.want = want;
            this.act = act;
        }
    }

    public static void main(String[] args) {
        Check.sentence("A call that throws changes nothing");
        onBoth("the page", RefusedCallsTest::page, onAnyGroup());
        onBoth("the page", RefusedCallsTest::page, onThePage());
        onBoth("a group", RefusedCallsTest::group, onAnyGroup());
        onBoth("a group", RefusedCallsTest::group, onAGroup());
        onBoth("a flat group", RefusedCallsTest::flatGroup, onAnyGroup());
        onBoth("a flat group", RefusedCallsTest::flatGroup, onAGroup());
        onBoth("the deepest group", RefusedCallsTest::deepestGroup, onAnyGroup());
        onBoth("the deepest group", RefusedCallsTest::deepestGroup, onAGroup());
        onBoth("the deepest group", RefusedCallsTest::deepestGroup, onTheDeepestGroup());
        Check.sentence("where several exceptions that a call names fit, it is the one that it names first.");
        onBoth("the page", RefusedCallsTest::page, whereSeveralFit());
        onBoth("the page", RefusedCallsTest::page, whereStateAndArgumentFit());
        onBoth("a group", RefusedCallsTest::group, whereSeveralFit());
        onBoth("a flat group", RefusedCallsTest::flatGroup, whereSeveralFit());
        Check.end();
    }

    /** A page on which nothing is as it was at first. */
    private static BlendRows page() {
        BlendRows rows = new BlendRows(2, 1);
        Look.paint(rows, 60, 120, 180);
        rows.mark(0, 255, 200);
        rows.group(true, false);
        rows.mark(0, 255, 150);
        rows.mask(1, false);
        rows.cover(1, 0, 99);
        rows.stays(1, true);
        rows.bound(3);
        Look.paint(rows, 200, 30, 10);
        return rows;
    }

    private static BlendRows group() {
        BlendRows rows = page();
        rows.group(false, true);
        rows.mark(3, 180, 220);
        return rows;
    }

    private static BlendRows flatGroup() {
        BlendRows rows = group();
        rows.bound(2);
        rows.group(true, false);
        return rows;
    }

    private static BlendRows deepestGroup() {
        BlendRows rows = group();
        while (rows.told(2) < 40) {
            rows.group(true, false);
        }
        return rows;
    }

    private static void onBoth(String where, Past past, List<Refused> calls) {
        for (Refused call : calls) {
            BlendRows refusing = past.made();
            BlendRows plain = past.made();
            String what = call.name + " on " + where;
            Check.due(what, Check.answerOf((Check.Act) () -> call.act.on(refusing)), call.want);
            Check.due(what + ": what is seen then", Look.portrait(refusing), Look.portrait(plain));
            Check.due(what + ": what comes then", whatComes(refusing), whatComes(plain));
        }
    }

    /** Lets the colour, the inks that stay, the bound, and whether groups are flat or knock out, be seen. */
    private static String whatComes(BlendRows rows) {
        StringBuilder seen = new StringBuilder();
        seen.append(rows.mark(1, 200, 255)).append(Look.portrait(rows));
        if (rows.told(2) < 40) {
            seen.append(rows.group(true, false)).append(Look.portrait(rows));
        }
        seen.append(rows.mark(0, 100, 255)).append(Look.portrait(rows));
        for (int depth = rows.told(2); depth > 1; depth--) {
            seen.append(rows.end(2, 240)).append(' ').append(Look.alphasAt(rows, 1, 0));
        }
        return seen.append(Look.portrait(rows)).toString();
    }

    private static List<Refused> onThePage() {
        List<Refused> calls = new ArrayList<>();
        calls.add(new Refused("end(0, 255)", STATE, rows -> rows.end(0, 255)));
        calls.add(new Refused("end(15, 0)", STATE, rows -> rows.end(15, 0)));
        calls.add(new Refused("mask(1, false)", STATE, rows -> rows.mask(1, false)));
        calls.add(new Refused("mask(2, true)", STATE, rows -> rows.mask(2, true)));
        return calls;
    }

    private static List<Refused> onTheDeepestGroup() {
        List<Refused> calls = new ArrayList<>();
        calls.add(new Refused("group(true, true)", UNSUPPORTED, rows -> rows.group(true, true)));
        calls.add(new Refused("group(false, false)", UNSUPPORTED, rows -> rows.group(false, false)));
        return calls;
    }

    private static List<Refused> onAGroup() {
        List<Refused> calls = new ArrayList<>();
        for (int mode : around(0, 15)) {
            calls.add(new Refused("end(" + mode + ", 255)", ARGUMENT, rows -> rows.end(mode, 255)));
        }
        for (int no : around(0, 255)) {
            calls.add(new Refused("end(0, " + no + ")", ARGUMENT, rows -> rows.end(0, no)));
        }
        for (int kind : around(1, 2)) {
            calls.add(new Refused("mask(" + kind + ", true)", ARGUMENT, rows -> rows.mask(kind, true)));
        }
        return calls;
    }

    private static List<Refused> onAnyGroup() {
        List<Refused> calls = new ArrayList<>();
        for (int what : around(0, 5)) {
            calls.add(new Refused("told(" + what + ")", ARGUMENT, rows -> rows.told(what)));
        }
        for (int most : around(1, 6)) {
            calls.add(new Refused("bound(" + most + ")", ARGUMENT, rows -> rows.bound(most)));
        }
        for (int band : around(0, 2)) {
            calls.add(new Refused("colour(" + band + ", 7)", INDEX, rows -> rows.colour(band, 7)));
            calls.add(new Refused("stays(" + band + ", true)", INDEX, rows -> rows.stays(band, true)));
            calls.add(new Refused("stays(" + band + ", false)", INDEX, rows -> rows.stays(band, false)));
            calls.add(new Refused("point(0, 0, " + band + ")", INDEX, rows -> rows.point(0, 0, band)));
            calls.add(new Refused("paper(0, 0, " + band + ")", INDEX, rows -> rows.paper(0, 0, band)));
        }
        for (int what : around(0, 4)) {
            calls.add(new Refused("alpha(0, 0, " + what + ")", ARGUMENT, rows -> rows.alpha(0, 0, what)));
        }
        addNoBytes(calls);
        addNoPoints(calls);
        addNoModes(calls);
        return calls;
    }

    private static void addNoBytes(List<Refused> calls) {
        for (int no : around(0, 255)) {
            calls.add(new Refused("colour(0, " + no + ")", ARGUMENT, rows -> rows.colour(0, no)));
            calls.add(new Refused("cover(0, 0, " + no + ")", ARGUMENT, rows -> rows.cover(0, 0, no)));
            calls.add(new Refused("fill(0, 0, 1, 0, " + no + ")", ARGUMENT, rows -> rows.fill(0, 0, 1, 0, no)));
            calls.add(new Refused("mark(0, " + no + ", 255)", ARGUMENT, rows -> rows.mark(0, no, 255)));
            calls.add(new Refused("mark(0, 255, " + no + ")", ARGUMENT, rows -> rows.mark(0, 255, no)));
            calls.add(new Refused("separable(0, " + no + ", 0)", ARGUMENT, rows -> rows.separable(0, no, 0)));
            calls.add(new Refused("separable(0, 0, " + no + ")", ARGUMENT, rows -> rows.separable(0, 0, no)));
        }
        for (int no : around(0, 16777215)) {
            calls.add(new Refused("blend(0, " + no + ", 0)", ARGUMENT, rows -> rows.blend(0, no, 0)));
            calls.add(new Refused("blend(0, 0, " + no + ")", ARGUMENT, rows -> rows.blend(0, 0, no)));
        }
    }

    private static void addNoPoints(List<Refused> calls) {
        for (int x : around(0, 1)) {
            calls.add(new Refused("cover(" + x + ", 0, 7)", INDEX, rows -> rows.cover(x, 0, 7)));
            calls.add(new Refused("point(" + x + ", 0, 0)", INDEX, rows -> rows.point(x, 0, 0)));
            calls.add(new Refused("alpha(" + x + ", 0, 0)", INDEX, rows -> rows.alpha(x, 0, 0)));
            calls.add(new Refused("paper(" + x + ", 0, 0)", INDEX, rows -> rows.paper(x, 0, 0)));
        }
        for (int y : around(0, 0)) {
            calls.add(new Refused("cover(0, " + y + ", 7)", INDEX, rows -> rows.cover(0, y, 7)));
            calls.add(new Refused("point(0, " + y + ", 0)", INDEX, rows -> rows.point(0, y, 0)));
            calls.add(new Refused("alpha(0, " + y + ", 0)", INDEX, rows -> rows.alpha(0, y, 0)));
            calls.add(new Refused("paper(0, " + y + ", 0)", INDEX, rows -> rows.paper(0, y, 0)));
        }
    }

    private static void addNoModes(List<Refused> calls) {
        for (int mode : around(0, 15)) {
            calls.add(new Refused("mark(" + mode + ", 255, 255)", ARGUMENT, rows -> rows.mark(mode, 255, 255)));
            calls.add(new Refused("blend(" + mode + ", 0, 0)", ARGUMENT, rows -> rows.blend(mode, 0, 0)));
        }
        for (int mode : around(0, 11)) {
            calls.add(new Refused("separable(" + mode + ", 0, 0)", ARGUMENT, rows -> rows.separable(mode, 0, 0)));
        }
    }

    private static List<Refused> whereSeveralFit() {
        List<Refused> calls = new ArrayList<>();
        for (int no : around(0, 255)) {
            calls.add(new Refused("colour(3, " + no + ")", ARGUMENT, rows -> rows.colour(3, no)));
            calls.add(new Refused("colour(-1, " + no + ")", ARGUMENT, rows -> rows.colour(-1, no)));
            calls.add(new Refused("cover(2, 0, " + no + ")", ARGUMENT, rows -> rows.cover(2, 0, no)));
            calls.add(new Refused("cover(0, -1, " + no + ")", ARGUMENT, rows -> rows.cover(0, -1, no)));
        }
        for (int what : around(0, 4)) {
            calls.add(new Refused("alpha(2, 0, " + what + ")", INDEX, rows -> rows.alpha(2, 0, what)));
            calls.add(new Refused("alpha(0, -1, " + what + ")", INDEX, rows -> rows.alpha(0, -1, what)));
        }
        return calls;
    }

    private static List<Refused> whereStateAndArgumentFit() {
        List<Refused> calls = new ArrayList<>();
        for (int mode : around(0, 15)) {
            calls.add(new Refused("end(" + mode + ", 255)", STATE, rows -> rows.end(mode, 255)));
        }
        for (int no : around(0, 255)) {
            calls.add(new Refused("end(0, " + no + ")", STATE, rows -> rows.end(0, no)));
        }
        for (int kind : around(1, 2)) {
            calls.add(new Refused("mask(" + kind + ", true)", STATE, rows -> rows.mask(kind, true)));
        }
        return calls;
    }

    private static int[] around(int least, int most) {
        return new int[] {least - 1, most + 1, FAR[0], FAR[1]};
    }
}
