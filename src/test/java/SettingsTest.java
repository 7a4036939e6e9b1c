/** Promises 6 to 9, 13 and 14: the settings, count and spaceWidth. */
public final class SettingsTest {
    private static final Check CHECK = new Check();
    private static final int UNKNOWN = RiverJustifier.UNKNOWN;
    private static final int BAD_VALUE = RiverJustifier.BAD_VALUE;
    private static final int MIN = Integer.MIN_VALUE;
    private static final int MAX = Integer.MAX_VALUE;

    private SettingsTest() {
    }

    public static void main(String[] args) {
        measure();
        hang();
        tolerance();
        spaces();
        bestLayoutComesBack();
        counts();
        spaceWidths();
        CHECK.end();
    }

    private static void measure() {
        RiverJustifier x = new RiverJustifier();
        CHECK.due("setMeasure(10)", x.setMeasure(10), 60);
        CHECK.due("setMeasure(200)", x.setMeasure(200), 10);
        for (int bad : new int[] {9, 201, 0, -10, MIN, MAX}) {
            CHECK.due("setMeasure(" + bad + ")", x.setMeasure(bad), BAD_VALUE);
        }
        CHECK.due("the measure", x.setMeasure(200), 200);
    }

    private static void hang() {
        RiverJustifier x = new RiverJustifier();
        CHECK.due("setHang(0)", x.setHang(0), 50);
        CHECK.due("setHang(100)", x.setHang(100), 0);
        for (int bad : new int[] {-1, 101, MIN, MAX}) {
            CHECK.due("setHang(" + bad + ")", x.setHang(bad), BAD_VALUE);
        }
        CHECK.due("the hang", x.setHang(100), 100);
    }

    private static void tolerance() {
        RiverJustifier x = new RiverJustifier();
        CHECK.due("setTolerance(0)", x.setTolerance(0), 2);
        CHECK.due("setTolerance(20)", x.setTolerance(20), 0);
        for (int bad : new int[] {-1, 21, MIN, MAX}) {
            CHECK.due("setTolerance(" + bad + ")", x.setTolerance(bad), BAD_VALUE);
        }
        CHECK.due("the tolerance", x.setTolerance(20), 20);
    }

    private static void spaces() {
        RiverJustifier x = new RiverJustifier();
        CHECK.due("setSpace of words", x.setSpace(0, 1, 1, 1), 3);
        CHECK.due("setSpace of clauses", x.setSpace(1, 40, 40, 40), 4);
        CHECK.due("setSpace of sentences", x.setSpace(2, 1, 20, 40), 5);
        CHECK.due("setSpace again", x.setSpace(2, 3, 4, 4), 20);
        int[][] bad = {{0, 1, 1}, {2, 1, 3}, {2, 3, 2}, {1, 1, 41}, {1, 41, 41}, {41, 41, 41}, {-1, 5, 5},
            {1, 5, 4}, {MIN, 3, 4}, {1, 2, MAX}, {MAX, MAX, MAX}, {1, 0, 3}};
        for (int[] widths : bad) {
            CHECK.due("bad widths", x.setSpace(2, widths[0], widths[1], widths[2]), BAD_VALUE);
        }
        for (int kind : new int[] {-1, 3, MIN, MAX}) {
            CHECK.due("no such class", x.setSpace(kind, 1, 1, 1), UNKNOWN);
            CHECK.due("the class is looked at first", x.setSpace(kind, 0, 0, 0), UNKNOWN);
        }
        int[][] widths = {{1, 1, 1}, {40, 40, 40}, {3, 4, 4}};
        for (int kind = 0; kind < 3; kind++) {
            for (int what = 0; what < 3; what++) {
                CHECK.due("width", x.spaceWidth(kind, what), widths[kind][what]);
            }
        }
    }

    private static void bestLayoutComesBack() {
        RiverJustifier x = Check.with(20, 50, "iii iii iii iii");
        x.setSpace(0, 1, 3, 8);
        for (int setting = 0; setting < 5; setting++) {
            x.takeSecond(0);
            CHECK.dueRow("the second choice", Check.breaks(x), 1, 3);
            x.setMeasure(9);
            x.setHang(101);
            x.setTolerance(21);
            x.setSpace(0, 1, 3, 41);
            x.setSpace(3, 1, 3, 8);
            CHECK.dueRow("wrong values change nothing", Check.breaks(x), 1, 3);
            switch (setting) {
                case 0 -> x.setMeasure(20);
                case 1 -> x.setHang(50);
                case 2 -> x.setTolerance(2);
                case 3 -> x.setSpace(0, 1, 3, 8);
                default -> x.readParagraph();
            }
            CHECK.dueRow("setting " + setting + " to what it was", Check.breaks(x), 2, 3);
        }
    }

    private static void counts() {
        RiverJustifier x = new RiverJustifier();
        for (int bad : new int[] {-1, 10, MIN, MAX}) {
            CHECK.due("count(" + bad + ")", x.count(bad), BAD_VALUE);
        }
        Check.read(x, "iii ".repeat(15));
        x.setMeasure(24);
        dueCounts(x, 15, 5, 500, 500, 2, 5, 6, 24, 50, 2);
        x.setSpace(0, 1, 3, 12);
        x.takeSecond(0);
        // Two words in the first line have the badness 100; the last line has one word.
        dueCounts(x, 15, 6, 12100 + 500, 500, 2, 4, 4, 24, 50, 2);
        x.setMeasure(10);
        dueCounts(x, 15, 0, 0, 0, 0, 0, 0, 10, 50, 2);
        x.setMeasure(200);
        dueCounts(x, 15, 1, 100, 100, 0, 1, 0, 200, 50, 2);
        Check.read(x, "iii");
        dueCounts(x, 1, 1, 100, 100, 0, 0, 0, 200, 50, 2);
    }

    private static void dueCounts(RiverJustifier x, int... want) {
        for (int what = 0; what < want.length; what++) {
            CHECK.due("count(" + what + ")", x.count(what), want[what]);
        }
    }

    private static void spaceWidths() {
        RiverJustifier x = new RiverJustifier();
        for (int bad : new int[] {-1, 3, MIN, MAX}) {
            CHECK.due("no such class", x.spaceWidth(bad, 0), UNKNOWN);
            CHECK.due("no such width", x.spaceWidth(0, bad), BAD_VALUE);
            CHECK.due("the class is looked at first", x.spaceWidth(bad, bad), UNKNOWN);
        }
    }
}
