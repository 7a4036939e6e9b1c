/** Promise 5: command. */
public final class CommandTest {
    private static final Check CHECK = new Check();

    private CommandTest() {
    }

    public static void main(String[] args) {
        rightOnes();
        numberRanges();
        faults();
        missingPieces();
        emptyPieces();
        firstFaultCounts();
        whatChanges();
        CHECK.end();
    }

    private static void due(RiverJustifier x, String text, int want) {
        CHECK.due("command " + text, Check.command(x, text), want);
    }

    private static void rightOnes() {
        RiverJustifier x = Check.with(60, 50, "iii iii iii iii");
        due(x, "measure 24", 2);
        dueSettings(x, 24, 50, 2);
        due(x, "hang 7", 2);
        dueSettings(x, 24, 7, 2);
        due(x, "river 20", 2);
        dueSettings(x, 24, 7, 20);
        due(x, "space word 1 2 3", 2);
        due(x, "space clause 4 5 6", 2);
        due(x, "space sentence 7 7 40", 2);
        int[][] widths = {{1, 2, 3}, {4, 5, 6}, {7, 7, 40}};
        for (int kind = 0; kind < 3; kind++) {
            for (int what = 0; what < 3; what++) {
                CHECK.due("width", x.spaceWidth(kind, what), widths[kind][what]);
            }
        }
        dueSettings(x, 24, 7, 20);
        due(x, "measure 080", 1);
        dueSettings(x, 80, 7, 20);
        due(x, "hang 000", 1);
        dueSettings(x, 80, 0, 20);
        due(x, "river 01", 1);
        dueSettings(x, 80, 0, 1);
        for (int what = 0; what < 3; what++) {
            CHECK.due("the widths stay", x.spaceWidth(0, what), widths[0][what]);
        }
        due(x, "measure 090", 1);
        CHECK.due("the text stays", x.command(), 1);
        CHECK.due("its length", x.clearText(), 11);
        due(new RiverJustifier(), "measure 10", 0);
    }

    private static void dueSettings(RiverJustifier x, int measure, int hang, int tolerance) {
        CHECK.due("the measure", x.count(7), measure);
        CHECK.due("the hang", x.count(8), hang);
        CHECK.due("the tolerance", x.count(9), tolerance);
    }

    private static void numberRanges() {
        RiverJustifier x = new RiverJustifier();
        due(x, "measure 10", 0);
        due(x, "measure 200", 0);
        due(x, "measure 9", -108);
        due(x, "measure 201", -108);
        due(x, "hang 000", 0);
        due(x, "hang 100", 0);
        due(x, "hang 101", -105);
        due(x, "river 00", 0);
        due(x, "river 21", -106);
        due(x, "space word 0 1 1", -111);
        due(x, "space word 41 41 41", -111);
        due(x, "space word 40 40 40", 0);
        due(x, "space word 3 2 5", -113);
        due(x, "space word 3 41 41", -113);
        due(x, "space word 3 4 3", -115);
        due(x, "space word 3 4 41", -115);
        due(x, "space word 1 1 1", 0);
    }

    private static void faults() {
        RiverJustifier x = new RiverJustifier();
        due(x, "", -100);
        due(x, "Measure 20", -100);
        due(x, "measur 20", -100);
        due(x, "measures 20", -100);
        due(x, "20", -100);
        due(x, "word 1 1 1", -100);
        due(x, "space", -105);
        due(x, "space words 1 2 3", -106);
        due(x, "space 1 2 3", -106);
        due(x, "space hang 1 2 3", -106);
        due(x, "measure x", -108);
        due(x, "measure 2x", -108);
        due(x, "measure -20", -108);
        due(x, "measure +20", -108);
        due(x, "measure 0020", -108);
        due(x, "measure 20.", -108);
        due(x, "measure\t20", -100);
        due(x, "measure 2\u0660", -108);
        due(x, "hang measure", -105);
        due(x, "measure 20 30", -111);
        due(x, "hang 20 x y", -108);
        due(x, "space word 1 2 3 4", -117);
        due(x, "space word 1 2 3 4 5 6", -117);
        CHECK.due("nothing is set", x.count(7), 60);
        CHECK.due("no width either", x.spaceWidth(0, 0), 2);
    }

    private static void missingPieces() {
        RiverJustifier x = new RiverJustifier();
        due(x, "measure", -107);
        due(x, "hang", -104);
        due(x, "river", -105);
        due(x, "space word", -110);
        due(x, "space sentence 1", -116);
        due(x, "space word 1 2", -114);
    }

    private static void emptyPieces() {
        RiverJustifier x = new RiverJustifier();
        due(x, " ", -100);
        due(x, "   ", -100);
        due(x, " measure 20", -100);
        due(x, "measure  20", -108);
        due(x, "measure ", -108);
        due(x, "measure   ", -108);
        due(x, "measure 20 ", -111);
        due(x, "measure 20  ", -111);
        due(x, "space  word 1 2 3", -106);
        due(x, "space word  1 2 3", -111);
        due(x, "space word 1  2 3", -113);
        due(x, "space word 1 2  3", -115);
        due(x, "space word 1 2 3 ", -117);
        due(x, " ".repeat(120), -100);
        due(x, "measure" + " ".repeat(113), -108);
    }

    private static void firstFaultCounts() {
        RiverJustifier x = new RiverJustifier();
        due(x, "x  y", -100);
        due(x, "measure 9 9", -108);
        due(x, "space word 4 3", -113);
        due(x, "space x 4 3", -106);
        due(x, "space word 1 2 1 ", -115);
        due(x, "x".repeat(120), -100);
    }

    private static void whatChanges() {
        RiverJustifier x = Check.with(20, 50, "iii iii iii iii");
        due(x, "space word 1 3 8", 2);
        CHECK.dueRow("the best layout", Check.breaks(x), 2, 3);
        String[] same = {"measure 20", "hang 50", "river 2", "space word 1 3 8", "space clause 2 4 8"};
        for (String text : same) {
            x.takeSecond(0);
            due(x, text + "x", -101 - text.lastIndexOf(' '));
            CHECK.dueRow("a fault changes nothing", Check.breaks(x), 1, 3);
            due(x, text, 2);
            CHECK.dueRow("setting the same brings the best layout back", Check.breaks(x), 2, 3);
        }
        RiverJustifier y = new RiverJustifier();
        due(y, "space word 5 6 3", -115);
        CHECK.due("no part of a wrong command is carried out", y.spaceWidth(0, 0), 2);
        due(y, "space clause 1 1", -116);
        CHECK.due("nor of one that ends too early", y.spaceWidth(1, 0), 2);
    }
}
