/** Promises 15 to 18: word, line, space and begin. */
public final class LineTest {
    private static final Check CHECK = new Check();
    private static final int UNKNOWN = RiverJustifier.UNKNOWN;
    private static final int BAD_VALUE = RiverJustifier.BAD_VALUE;
    private static final int MIN = Integer.MIN_VALUE;
    private static final int MAX = Integer.MAX_VALUE;
    // Widths 10, 10, 9, 9 and 36; the four first words are 50 wide with natural spaces.
    private static final String MIXED = "aaa. aaa, aaa aaa " + "i".repeat(18);

    private LineTest() {
    }

    public static void main(String[] args) {
        words();
        hanging();
        widening();
        narrowing();
        roundsGoFromLeftToRight();
        lastLine();
        beginnings();
        wrongArguments();
        CHECK.end();
    }

    private static void dueLine(RiverJustifier x, int line, int... want) {
        for (int what = 0; what < want.length; what++) {
            CHECK.due("line(" + line + ", " + what + ")", x.line(line, what), want[what]);
        }
    }

    private static void dueSpaces(RiverJustifier x, int line, int... want) {
        for (int space = 0; space < want.length; space++) {
            CHECK.due("width of space " + space, x.space(line, space, 0), want[space]);
        }
        CHECK.due("no more spaces", x.space(line, want.length, 0), UNKNOWN);
    }

    private static void words() {
        RiverJustifier x = Check.with(20, 0, "iii Wm. iii, 0-9' I");
        int[][] due = {{6, 3, 0}, {10, 3, 2}, {7, 4, 1}, {9, 4, 0}, {2, 1, 0}};
        for (int word = 0; word < due.length; word++) {
            for (int what = 0; what < 3; what++) {
                CHECK.due("word(" + word + ", " + what + ")", x.word(word, what), due[word][what]);
            }
        }
        CHECK.due("line of the first word", x.word(0, 3), 0);
        CHECK.due("line of the second word", x.word(1, 3), 0);
        CHECK.due("line of the third word", x.word(2, 3), 1);
        CHECK.due("line of the last word", x.word(4, 3), 2);
    }

    private static void hanging() {
        RiverJustifier x = Check.with(60, 50, "\"ab c?\"");
        dueLine(x, 0, 0, 1, 8 + 3 + 7 - 2, 44, 0, 100, 1, 1, 16);
        CHECK.due("begins over the edge", x.begin(0), -1);
        x.setHang(49);
        dueLine(x, 0, 0, 1, 18, 42, 0, 100, 0, 0, 18);
        x.setHang(99);
        dueLine(x, 0, 0, 1, 16, 44, 0, 100, 1, 1, 16);
        x.setHang(100);
        dueLine(x, 0, 0, 1, 14, 46, 0, 100, 2, 2, 14);
        CHECK.due("begins over the edge", x.begin(0), -2);
        Check.read(x, "\"");
        dueLine(x, 0, 0, 0, -2, 62, 0, 100, 2, 2, -2);
        Check.read(x, "'");
        dueLine(x, 0, 0, 0, -1, 61, 0, 100, 1, 1, -1);
        x.setHang(99);
        dueLine(x, 0, 0, 0, 1, 59, 0, 100, 0, 0, 1);
        x.setHang(100);
        Check.read(x, "(");
        dueLine(x, 0, 0, 0, 0, 60, 0, 100, 2, 0, 0);
        Check.read(x, ")");
        dueLine(x, 0, 0, 0, 2, 58, 0, 100, 0, 0, 2);
        // Only the first word of a line hangs on the left, and only the last one on the right.
        Check.read(x, "(iii 'iii, iii. iii");
        dueLine(x, 0, 0, 3, 8 + 8 + 7 + 6 + 3 + 4 + 5 - 2, 21, 0, 100, 2, 0, 39);
        x.setMeasure(18);
        dueLine(x, 0, 0, 1, 8 + 3 + 8 - 2 - 1, 2, 44, 54 * 54, 2, 1, 18);
        dueLine(x, 1, 2, 3, 18, 0, 0, 100, 0, 0, 18);
    }

    private static RiverJustifier mixed(int measure) {
        return Check.with(measure, 0, MIXED);
    }

    private static void widening() {
        dueSpaces(mixed(50), 0, 5, 4, 3);
        dueSpaces(mixed(51), 0, 6, 4, 3);
        dueSpaces(mixed(52), 0, 6, 5, 3);
        dueSpaces(mixed(53), 0, 6, 5, 4);
        dueSpaces(mixed(54), 0, 7, 5, 4);
        dueSpaces(mixed(59), 0, 8, 7, 6);
        dueSpaces(mixed(60), 0, 9, 7, 6);
        dueSpaces(mixed(61), 0, 9, 8, 6);
        dueSpaces(mixed(62), 0, 10, 8, 6);
        dueLine(mixed(62), 0, 0, 3, 50, 12, 100, 12100, 0, 0, 62);
        dueLine(mixed(55), 0, 0, 3, 50, 5, 17, 27 * 27, 0, 0, 55);
    }

    private static void narrowing() {
        dueSpaces(mixed(49), 0, 5, 3, 3);
        dueSpaces(mixed(48), 0, 4, 3, 3);
        dueSpaces(mixed(47), 0, 4, 3, 2);
        dueSpaces(mixed(46), 0, 4, 2, 2);
        dueSpaces(mixed(45), 0, 3, 2, 2);
        dueLine(mixed(45), 0, 0, 3, 50, -5, 100, 12100, 0, 0, 45);
        dueLine(mixed(47), 0, 0, 3, 50, -3, 36, 46 * 46, 0, 0, 47);
    }

    private static void roundsGoFromLeftToRight() {
        RiverJustifier x = Check.with(36, 0, "iii iii iii iii iiiiiiiiii");
        dueSpaces(x, 0, 4, 4, 4);
        x.setMeasure(34);
        dueSpaces(x, 0, 4, 3, 3);
        x.setMeasure(38);
        dueSpaces(x, 0, 5, 5, 4);
        x.setMeasure(32);
        dueSpaces(x, 0, 2, 3, 3);
        x.setMeasure(31);
        dueSpaces(x, 0, 2, 2, 3);
    }

    private static void lastLine() {
        RiverJustifier x = Check.with(40, 0, "iii iii, iii. iii");
        // 25 of the words and 12 of the spaces.
        dueLine(x, 0, 0, 3, 38, 2, 0, 100, 0, 0, 38);
        dueSpaces(x, 0, 3, 4, 5);
        x.setMeasure(39);
        dueLine(x, 0, 0, 3, 38, 1, 0, 100, 0, 0, 38);
        dueSpaces(x, 0, 3, 4, 5);
        x.setMeasure(38);
        dueLine(x, 0, 0, 3, 38, 0, 0, 100, 0, 0, 38);
        dueSpaces(x, 0, 3, 4, 5);
        x.setMeasure(35);
        dueLine(x, 0, 0, 3, 38, -3, 36, 46 * 46, 0, 0, 35);
        dueSpaces(x, 0, 2, 3, 4);
        x.setMeasure(34);
        dueLine(x, 0, 0, 3, 38, -4, 64, 74 * 74, 0, 0, 34);
        dueSpaces(x, 0, 2, 2, 4);
        x.setMeasure(33);
        CHECK.due("two lines are better now", x.takeSecond(0), 1);
        dueLine(x, 0, 0, 3, 38, -5, 100, 12100, 0, 0, 33);
        dueSpaces(x, 0, 2, 2, 3);
    }

    private static void beginnings() {
        RiverJustifier x = Check.with(48, 50, "(aa. aaa, aaa aa- iiiiii");
        // D = -2 of the first line: widths 9, 10, 9, 8 and spaces of 12, less 1 on both sides is 46.
        x.setMeasure(45);
        dueLine(x, 0, 0, 3, 46, -1, 4, 14 * 14, 1, 1, 45);
        dueSpaces(x, 0, 5, 3, 3);
        int[] begins = {-1, 13, 26, 38, 0};
        for (int word = 0; word < begins.length; word++) {
            CHECK.due("begin(" + word + ")", x.begin(word), begins[word]);
        }
        int[][] spaces = {{5, 8, 2, 1}, {3, 23, 1, 1}, {3, 35, 0, 1}};
        for (int space = 0; space < 3; space++) {
            for (int what = 0; what < 4; what++) {
                CHECK.due("space(0, " + space + ", " + what + ")", x.space(0, space, what), spaces[space][what]);
            }
        }
        CHECK.due("lengths are those of RIVERS", Check.with(24, 0, "iii ".repeat(9)).space(2, 1, 3), 3);
    }

    private static void wrongArguments() {
        RiverJustifier x = mixed(50);
        CHECK.due("lines", x.count(1), 2);
        for (int bad : new int[] {-1, MIN, MAX}) {
            CHECK.due("no such word", x.word(bad, 0), UNKNOWN);
            CHECK.due("the word is looked at first", x.word(bad, 4), UNKNOWN);
            CHECK.due("no such beginning", x.begin(bad), UNKNOWN);
            CHECK.due("no such line", x.line(bad, 0), UNKNOWN);
            CHECK.due("the line is looked at first", x.line(bad, 9), UNKNOWN);
            CHECK.due("no spaces of such a line", x.space(bad, 0, 0), UNKNOWN);
            CHECK.due("no such space", x.space(0, bad, 0), UNKNOWN);
            CHECK.due("the space is looked at first", x.space(0, bad, 4), UNKNOWN);
            CHECK.due("no such property of a word", x.word(0, bad), BAD_VALUE);
            CHECK.due("no such property of a line", x.line(0, bad), BAD_VALUE);
            CHECK.due("no such property of a space", x.space(0, 0, bad), BAD_VALUE);
        }
        CHECK.due("word(5, 0)", x.word(5, 0), UNKNOWN);
        CHECK.due("begin(5)", x.begin(5), UNKNOWN);
        CHECK.due("line(2, 0)", x.line(2, 0), UNKNOWN);
        CHECK.due("space(2, 0, 0)", x.space(2, 0, 0), UNKNOWN);
        CHECK.due("space(1, 0, 0)", x.space(1, 0, 0), UNKNOWN);
        CHECK.due("space(0, 3, 0)", x.space(0, 3, 0), UNKNOWN);
        CHECK.due("word(0, 4)", x.word(0, 4), BAD_VALUE);
        CHECK.due("line(0, 9)", x.line(0, 9), BAD_VALUE);
        CHECK.due("space(0, 0, 4)", x.space(0, 0, 4), BAD_VALUE);
        x.setMeasure(10);
        CHECK.due("a wrong property without a layout", x.word(0, 4), BAD_VALUE);
        CHECK.due("no such word without a layout", x.begin(5), UNKNOWN);
        CHECK.due("no line without a layout", x.word(0, 3), RiverJustifier.NONE);
        CHECK.due("no beginning without a layout", x.begin(0), RiverJustifier.NONE);
    }
}
