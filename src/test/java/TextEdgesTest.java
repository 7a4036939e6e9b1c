import java.io.IOException;

/** One test for each sentence of TEXT and ERRORS that names a boundary case. */
public final class TextEdgesTest {
    private static final Check CHECK = new Check();
    private static final int UNKNOWN = RiverJustifier.UNKNOWN;
    private static final int BAD_VALUE = RiverJustifier.BAD_VALUE;
    private static final int FULL = RiverJustifier.FULL;
    private static final int NONE = RiverJustifier.NONE;
    private static final int MIN = Integer.MIN_VALUE;
    private static final int MAX = Integer.MAX_VALUE;

    private TextEdgesTest() {
    }

    public static void main(String[] args) throws IOException {
        Document document = new Document(CHECK);
        text(document);
        commandFaults(document);
        errors(document);
        constants(document);
        document.end("TEXT", "ERRORS");
        CHECK.end();
    }

    private static void text(Document document) {
        document.section("TEXT");
        document.test("There is a text of at most 120 characters, empty at first, "
            + "that can be read as a paragraph or as a command.", TextEdgesTest::lengthOfText);
        document.test("For a paragraph its fault is the index, from 0, of the first character that is not allowed ",
            TextEdgesTest::paragraphFaults);
        document.test("(a text without words has no fault by that).", TextEdgesTest::textsWithoutWords);
        document.test("A command consists of pieces that are separated by single blanks; "
            + "a piece is a stretch of characters that are not blanks:", TextEdgesTest::pieces);
        document.test("  measure N | hang N | river N | space C N N N", TextEdgesTest::commands);
        document.test("where C is word, clause or sentence, ", TextEdgesTest::classNames);
        document.test("and N is a number of 1 to 3 digits (zeros can stand in front): ", TextEdgesTest::digits);
        document.test("the measure, the hang, the tolerance, or the least, natural and greatest width of the class.",
            TextEdgesTest::whatNumbersAre);
    }

    private static void due(RiverJustifier x, String text, int want) {
        CHECK.due("command '" + text + "'", Check.command(x, text), want);
    }

    private static void due(String text, int want) {
        due(new RiverJustifier(), text, want);
    }

    private static void lengthOfText() {
        RiverJustifier x = new RiverJustifier();
        CHECK.due("empty at first", x.clearText(), 0);
        CHECK.due("empty as a paragraph", x.readParagraph(), 0);
        CHECK.due("empty as a command", x.command(), -100);
        for (int i = 1; i <= 120; i++) {
            CHECK.due("room for character " + i, x.type('a'), i);
        }
        CHECK.due("no room for another one", x.type('a'), FULL);
        CHECK.due("full as a paragraph", x.readParagraph(), 1);
        CHECK.due("all of it", x.word(0, 1), 120);
        CHECK.due("full as a command", x.command(), -100);
    }

    private static void paragraphFaults() {
        CHECK.due("the first character", Check.read(new RiverJustifier(), "_ab"), -100);
        CHECK.due("the second character", Check.read(new RiverJustifier(), "a_b"), -101);
        CHECK.due("the last character", Check.read(new RiverJustifier(), "ab_"), -102);
        CHECK.due("the first of several", Check.read(new RiverJustifier(), " a+b*c"), -102);
        CHECK.due("the last one that there can be", Check.read(new RiverJustifier(), "a".repeat(119) + "_"), -219);
        CHECK.due("behind all that is allowed", Check.read(new RiverJustifier(), "zZ9.,;:!?-'\"() #"), -115);
        CHECK.due("without words", Check.read(new RiverJustifier(), "  _"), -102);
    }

    private static void textsWithoutWords() {
        RiverJustifier x = Check.with(60, 50, "iii iii");
        CHECK.due("words", x.count(0), 2);
        CHECK.due("an empty text", Check.read(x, ""), 0);
        CHECK.due("is an empty paragraph", x.count(0), 0);
        CHECK.due("words again", Check.read(x, "i"), 1);
        CHECK.due("a blank", Check.read(x, " "), 0);
        CHECK.due("is an empty paragraph", x.count(0), 0);
        CHECK.due("120 blanks", Check.read(x, " ".repeat(120)), 0);
    }

    private static void pieces() {
        due("measure 20", 0);
        due("measure  20", -108);
        due("measure\t20", -100);
        due("measure\n20", -100);
        due("measure20", -100);
        due("measure" + (char) 160 + "20", -100);
        due("space word 1 2 3", 0);
        due("space  word 1 2 3", -106);
        due("space word 1 2-3", -113);
        due("space-word 1 2 3", -100);
    }

    private static void commands() {
        dueSettings(new RiverJustifier(), "measure 11", 11, 50, 2, 2, 3, 6);
        dueSettings(new RiverJustifier(), "hang 12", 60, 12, 2, 2, 3, 6);
        dueSettings(new RiverJustifier(), "river 13", 60, 50, 13, 2, 3, 6);
        dueSettings(new RiverJustifier(), "space clause 14 15 16", 60, 50, 2, 2, 3, 6);
        // A command sets nothing else, not what one before it has set either.
        RiverJustifier x = new RiverJustifier();
        dueSettings(x, "space word 14 15 16", 60, 50, 2, 14, 15, 16);
        dueSettings(x, "river 13", 60, 50, 13, 14, 15, 16);
        dueSettings(x, "hang 12", 60, 12, 13, 14, 15, 16);
        dueSettings(x, "measure 11", 11, 12, 13, 14, 15, 16);
        due("", -100);
        due("measur 20", -100);
        due("measures 20", -100);
        due("Hang 20", -100);
        due("rivers 2", -100);
        due("tolerance 2", -100);
        due("word 1 2 3", -100);
        due("20", -100);
    }

    /** What is set after a command: the measure, the hang, the tolerance, the widths for words. */
    private static void dueSettings(RiverJustifier x, String text, int... want) {
        due(x, text, 0);
        for (int i = 0; i < 3; i++) {
            CHECK.due("count(" + (7 + i) + ") after " + text, x.count(7 + i), want[i]);
            CHECK.due("width " + i + " after " + text, x.spaceWidth(0, i), want[3 + i]);
        }
    }

    private static void classNames() {
        String[] names = {"word", "clause", "sentence"};
        for (int kind = 0; kind < 3; kind++) {
            RiverJustifier x = new RiverJustifier();
            due(x, "space " + names[kind] + " 7 8 9", 0);
            for (int other = 0; other < 3; other++) {
                int want = other == kind ? 7 : other == 2 ? 3 : 2;
                CHECK.due("least width " + other + " after " + names[kind], x.spaceWidth(other, 0), want);
            }
        }
        due("space words 7 8 9", -106);
        due("space Word 7 8 9", -106);
        due("space claus 7 8 9", -106);
        due("space 0 7 8 9", -106);
        due("space space 7 8 9", -106);
    }

    private static void digits() {
        RiverJustifier x = new RiverJustifier();
        due(x, "hang 7", 0);
        CHECK.due("one digit", x.count(8), 7);
        due(x, "hang 42", 0);
        CHECK.due("two digits", x.count(8), 42);
        due(x, "hang 100", 0);
        CHECK.due("three digits", x.count(8), 100);
        due(x, "hang 007", 0);
        CHECK.due("zeros in front", x.count(8), 7);
        due(x, "hang 00", 0);
        CHECK.due("only zeros", x.count(8), 0);
        due(x, "hang 080", 0);
        CHECK.due("a zero in front does not make it octal", x.count(8), 80);
        due("hang 0007", -105);
        due("hang 0000", -105);
        due("measure 0060", -108);
        due("space word 001 002 003", 0);
        due("space word 001 002 0003", -119);
    }

    private static void whatNumbersAre() {
        due("measure 9", -108);
        due("measure 10", 0);
        due("measure 200", 0);
        due("measure 201", -108);
        due("measure 000", -108);
        due("hang 0", 0);
        due("hang 100", 0);
        due("hang 101", -105);
        due("river 0", 0);
        due("river 20", 0);
        due("river 21", -106);
        due("space word 1 1 1", 0);
        due("space clause 40 40 40", 0);
        due("space sentence 1 20 40", 0);
        due("space word 0 1 1", -111);
        due("space clause 41 41 41", -113);
        due("space sentence 1 41 41", -117);
        due("space word 1 1 41", -115);
    }

    private static void commandFaults(Document document) {
        document.test("The fault of a command is the index of the first character of the first piece "
            + "that is wrong (", TextEdgesTest::firstWrongPiece);
        document.test("an unknown word, ", TextEdgesTest::unknownWords);
        document.test("something else than a number, ", TextEdgesTest::noNumbers);
        document.test("a number out of its range, ", TextEdgesTest::outOfRange);
        document.test("or less than the one before it for widths, ", TextEdgesTest::lessThanBefore);
        document.test("one piece too many, ", TextEdgesTest::tooManyPieces);
        document.test("and an empty piece, one without characters before, between or behind blanks, "
            + "whose index is that at which it would begin); ", TextEdgesTest::emptyPieces);
        document.test("it is the length of the text if a piece is missing.", TextEdgesTest::missingPieces);
    }

    private static void firstWrongPiece() {
        due("x y z", -100);
        due("measure x y", -108);
        due("measure 12x", -108);
        due("measure 9 9", -108);
        due("space x 0 0 0 0", -106);
        due("space word 1x 0 0", -111);
        due("space word 4 3 2 1", -113);
        due("space word 3 4 2 1", -115);
        due("space word 3 4 5x 1", -115);
        // A wrong piece before a missing one, and before an empty one.
        due("space x", -106);
        due("space word 0", -111);
        due("space word 5 4", -113);
        due("measure 9 ", -108);
        due("x ", -100);
    }

    private static void unknownWords() {
        due("measurement 20", -100);
        due("m 20", -100);
        due("MEASURE 20", -100);
        due("measure, 20", -100);
        due("7", -100);
        due("x".repeat(120), -100);
        due("space sentences 1 2 3", -106);
        due("space sentenc 1 2 3", -106);
        due("space hang 1 2 3", -106);
        due("space 1 2 3", -106);
        due("hang hang", -105);
    }

    private static void noNumbers() {
        String[] wrong = {"x", "2x", "x2", "-20", "+20", "20.", "2,0", "0x2", "1e1", "/", ":", "2" + (char) 0x0660,
            (char) 0xff12 + "0", "0020", "99999999999"};
        for (String piece : wrong) {
            due("measure " + piece, -108);
            due("hang " + piece, -105);
            due("river " + piece, -106);
            due("space word " + piece + " 20 20", -111);
            due("space word 1 " + piece + " 20", -113);
            due("space word 1 2 " + piece, -115);
        }
    }

    private static void outOfRange() {
        due("measure 0", -108);
        due("measure 009", -108);
        due("measure 999", -108);
        due("hang 999", -105);
        due("river 999", -106);
        due("space word 0 0 0", -111);
        due("space word 1 41 40", -113);
        due("space word 1 2 999", -115);
        RiverJustifier x = new RiverJustifier();
        due(x, "measure 201", -108);
        due(x, "hang 101", -105);
        due(x, "river 21", -106);
        CHECK.due("the measure", x.count(7), 60);
        CHECK.due("the hang", x.count(8), 50);
        CHECK.due("the tolerance", x.count(9), 2);
    }

    private static void lessThanBefore() {
        due("space word 7 6 8", -113);
        due("space word 7 7 6", -115);
        due("space word 7 7 7", 0);
        due("space word 7 8 7", -115);
        due("space clause 40 39 40", -116);
        due("space sentence 2 1 1", -117);
        RiverJustifier x = new RiverJustifier();
        due(x, "space word 7 8 6", -115);
        due(x, "space word 1 2", -114);
        CHECK.due("the widths that were right are not set either", x.spaceWidth(0, 0), 2);
        // What counts is the one before it in the command, not what is set.
        due(x, "space word 1 1 1", 0);
    }

    private static void tooManyPieces() {
        due("measure 20 30", -111);
        due("hang 20 30", -108);
        due("river 2 3", -108);
        due("measure 20 x y z", -111);
        due("space word 1 2 3 4", -117);
        due("space word 1 2 3 4 5 6 7", -117);
        due("space word 001 002 003 " + "9".repeat(97), -123);
        CHECK.due("then nothing is set", command("measure 20 30").count(7), 60);
        CHECK.due("then nothing is set", command("space word 1 1 1 1").spaceWidth(0, 0), 2);
    }

    private static RiverJustifier command(String text) {
        RiverJustifier x = new RiverJustifier();
        Check.command(x, text);
        return x;
    }

    private static void emptyPieces() {
        due(" measure 20", -100);
        due("  measure 20", -100);
        due(" ", -100);
        due(" ".repeat(120), -100);
        due("measure  20", -108);
        due("measure   20", -108);
        due("measure 20 ", -111);
        due("measure 20  ", -111);
        due("measure 20" + " ".repeat(110), -111);
        due("measure ", -108);
        due("measure  ", -108);
        due("measure" + " ".repeat(113), -108);
        due("space ", -106);
        due("space word ", -111);
        due("space word 1 ", -113);
        due("space word 1 2 ", -115);
        due("space word 1 2 3 ", -117);
        due("space word  1 2 3", -111);
        due("space word 1  2 3", -113);
        due("space word 1 2  3", -115);
        CHECK.due("then nothing is set", command("measure 20 ").count(7), 60);
        CHECK.due("then nothing is set", command("space word 1 1 1 ").spaceWidth(0, 0), 2);
    }

    private static void missingPieces() {
        due("", -100);
        due("measure", -107);
        due("hang", -104);
        due("river", -105);
        due("space", -105);
        due("space word", -110);
        due("space clause", -112);
        due("space sentence", -114);
        due("space word 1", -112);
        due("space word 1 2", -114);
        due("space sentence 001 002", -122);
    }

    private static void errors(Document document) {
        document.section("ERRORS");
        document.plain("Errors are reported by the constants below.");
        document.test("Where several errors can apply, the order of the @return line is the order of the checks.",
            TextEdgesTest::orderOfChecks);
        document.test("NONE is no error; it is returned only if no error applies.", TextEdgesTest::noneComesLast);
        document.test("A call that returns an error or NONE changes nothing.", TextEdgesTest::refusedCalls);
        document.plain("The constants:");
    }

    private static void orderOfChecks() {
        RiverJustifier x = Check.columns(9);
        for (int bad : new int[] {MIN, -1, 99, MAX}) {
            CHECK.due("setSpace: UNKNOWN before BAD_VALUE", x.setSpace(bad, bad, 0, 41), UNKNOWN);
            CHECK.due("spaceWidth: UNKNOWN before BAD_VALUE", x.spaceWidth(bad, bad), UNKNOWN);
            CHECK.due("word: UNKNOWN before BAD_VALUE", x.word(bad, bad), UNKNOWN);
            CHECK.due("line: UNKNOWN before BAD_VALUE", x.line(bad, bad), UNKNOWN);
            CHECK.due("space: UNKNOWN of the line before BAD_VALUE", x.space(bad, 0, bad), UNKNOWN);
            CHECK.due("space: UNKNOWN of the space before BAD_VALUE", x.space(0, bad, bad), UNKNOWN);
            CHECK.due("second: UNKNOWN before BAD_VALUE", x.second(bad, bad), UNKNOWN);
            CHECK.due("river: UNKNOWN before BAD_VALUE", x.river(bad, -1), UNKNOWN);
        }
    }

    private static void noneComesLast() {
        RiverJustifier x = Check.with(12, 0, "iiiiii iiiiii ii");
        CHECK.due("second: NONE", x.second(0, 1), NONE);
        CHECK.due("second: BAD_VALUE before NONE", x.second(0, 2), BAD_VALUE);
        CHECK.due("second: BAD_VALUE before NONE", x.second(0, -1), BAD_VALUE);
        CHECK.due("takeSecond: NONE", x.takeSecond(0), NONE);
        CHECK.due("takeSecond: UNKNOWN before NONE", x.takeSecond(3), UNKNOWN);
        x.setMeasure(13);
        CHECK.due("begin: NONE without a layout", x.begin(0), NONE);
        CHECK.due("begin: UNKNOWN before NONE", x.begin(3), UNKNOWN);
        CHECK.due("word: NONE without a layout", x.word(0, 3), NONE);
        CHECK.due("word: UNKNOWN before NONE", x.word(3, 3), UNKNOWN);
        CHECK.due("word: BAD_VALUE", x.word(0, 4), BAD_VALUE);
        CHECK.due("worst: NONE without a layout", x.worst(0), NONE);
        CHECK.due("worst: BAD_VALUE before NONE", x.worst(-1), BAD_VALUE);
        CHECK.due("second: UNKNOWN without a layout", x.second(0, 0), UNKNOWN);
        CHECK.due("takeSecond: UNKNOWN without a layout", x.takeSecond(0), UNKNOWN);
        RiverJustifier y = Check.columns(9);
        CHECK.due("river: NONE", y.river(0, 3), NONE);
        CHECK.due("river: UNKNOWN before NONE", y.river(2, 3), UNKNOWN);
        CHECK.due("river: BAD_VALUE", y.river(0, -1), BAD_VALUE);
    }

    private interface Call {
        int on(RiverJustifier x);
    }

    /** A layout that is not the best one, with three lines and a river; its last line has no second choice. */
    private static RiverJustifier taken(String text) {
        RiverJustifier x = Check.sixes(7, 20, 1, 3, 10);
        x.setTolerance(4);
        x.takeSecond(1);
        Check.typeAll(x, text);
        return x;
    }

    /** After the refused call the object tells the same as another one, on which it was not called. */
    private static void dueRefused(String text, String name, Call call, int want) {
        RiverJustifier x = taken(text);
        RiverJustifier y = taken(text);
        CHECK.due(name + " of '" + text + "'", call.on(x), want);
        CHECK.dueRow("state after " + name, Check.state(x), Check.state(y));
        CHECK.due("text after " + name, x.readParagraph(), y.readParagraph());
        CHECK.dueRow("state after reading the text after " + name, Check.state(x), Check.state(y));
        CHECK.due("length of the text after " + name, x.clearText(), y.clearText());
    }

    private static void refusedCalls() {
        dueRefused("a".repeat(120), "type", x -> x.type('b'), FULL);
        dueRefused("a b_c", "readParagraph()", x -> x.readParagraph(), -103);
        dueRefused("_", "readParagraph()", x -> x.readParagraph(), -100);
        String[] commands = {"", "measure", "measure 9", "measure 30 30", "hang 101", "hang 0 ", "river 21",
            "river  3", "space word 5 6 4", "space word 1 2", "space clause 1 1 1 1", "space word 41 41 41"};
        int[] faults = {0, 7, 8, 11, 5, 7, 6, 6, 15, 14, 19, 11};
        for (int i = 0; i < commands.length; i++) {
            dueRefused(commands[i], "command()", x -> x.command(), -100 - faults[i]);
        }
        dueRefused("a b", "setMeasure(9)", x -> x.setMeasure(9), BAD_VALUE);
        dueRefused("a b", "setMeasure(201)", x -> x.setMeasure(201), BAD_VALUE);
        dueRefused("a b", "setHang(-1)", x -> x.setHang(-1), BAD_VALUE);
        dueRefused("a b", "setHang(101)", x -> x.setHang(101), BAD_VALUE);
        dueRefused("a b", "setTolerance(-1)", x -> x.setTolerance(-1), BAD_VALUE);
        dueRefused("a b", "setTolerance(21)", x -> x.setTolerance(21), BAD_VALUE);
        dueRefused("a b", "setSpace(3, 1, 1, 1)", x -> x.setSpace(3, 1, 1, 1), UNKNOWN);
        dueRefused("a b", "setSpace(-1, 1, 1, 1)", x -> x.setSpace(-1, 1, 1, 1), UNKNOWN);
        dueRefused("a b", "setSpace(0, 0, 4, 5)", x -> x.setSpace(0, 0, 4, 5), BAD_VALUE);
        dueRefused("a b", "setSpace(0, 2, 1, 5)", x -> x.setSpace(0, 2, 1, 5), BAD_VALUE);
        dueRefused("a b", "setSpace(0, 2, 4, 3)", x -> x.setSpace(0, 2, 4, 3), BAD_VALUE);
        dueRefused("a b", "setSpace(0, 2, 4, 41)", x -> x.setSpace(0, 2, 4, 41), BAD_VALUE);
        dueRefused("a b", "takeSecond(-1)", x -> x.takeSecond(-1), UNKNOWN);
        dueRefused("a b", "takeSecond(3)", x -> x.takeSecond(3), UNKNOWN);
        dueRefused("a b", "takeSecond(2)", x -> x.takeSecond(2), NONE);
        refusedQuestions();
        RiverJustifier none = Check.with(13, 0, "iiiiii iiiiii");
        CHECK.due("layBest() without a way", none.layBest(), NONE);
        CHECK.due("words after it", none.count(0), 2);
        CHECK.due("lines after it", none.count(1), 0);
    }

    private static void refusedQuestions() {
        dueRefused("a b", "count(10)", x -> x.count(10), BAD_VALUE);
        dueRefused("a b", "spaceWidth(3, 0)", x -> x.spaceWidth(3, 0), UNKNOWN);
        dueRefused("a b", "spaceWidth(0, 3)", x -> x.spaceWidth(0, 3), BAD_VALUE);
        dueRefused("a b", "word(7, 0)", x -> x.word(7, 0), UNKNOWN);
        dueRefused("a b", "word(0, 4)", x -> x.word(0, 4), BAD_VALUE);
        dueRefused("a b", "line(3, 0)", x -> x.line(3, 0), UNKNOWN);
        dueRefused("a b", "line(0, 9)", x -> x.line(0, 9), BAD_VALUE);
        dueRefused("a b", "space(0, 1, 0)", x -> x.space(0, 1, 0), UNKNOWN);
        dueRefused("a b", "space(0, 0, 4)", x -> x.space(0, 0, 4), BAD_VALUE);
        dueRefused("a b", "begin(7)", x -> x.begin(7), UNKNOWN);
        dueRefused("a b", "second(3, 0)", x -> x.second(3, 0), UNKNOWN);
        dueRefused("a b", "second(0, 2)", x -> x.second(0, 2), BAD_VALUE);
        dueRefused("a b", "second(2, 0)", x -> x.second(2, 0), NONE);
        dueRefused("a b", "worst(-1)", x -> x.worst(-1), BAD_VALUE);
        dueRefused("a b", "worst(3)", x -> x.worst(3), NONE);
        dueRefused("a b", "river(1, 0)", x -> x.river(1, 0), UNKNOWN);
        dueRefused("a b", "river(0, -1)", x -> x.river(0, -1), BAD_VALUE);
        dueRefused("a b", "river(0, 3)", x -> x.river(0, 3), NONE);
    }

    private static void constants(Document document) {
        document.test("- `UNKNOWN = -1001`: There is no such word, line, space or river.",
            TextEdgesTest::unknowns);
        document.test("- `BAD_VALUE = -1002`: Another argument is out of range.", TextEdgesTest::badValues);
        document.test("- `FULL = -1003`: There is no more room.", TextEdgesTest::full);
        document.test("- `NONE = -1004`: There is no such thing; not an error.", TextEdgesTest::nones);
        document.plain("The constructor and the methods follow, a promise each: the signature, then what it does.");
    }

    private static void unknowns() {
        CHECK.due("the constant", UNKNOWN, -1001);
        // Seven words, three lines, of which the first has one space, and one river.
        RiverJustifier x = taken("a b");
        for (int bad : new int[] {MIN, -1, 7, MAX}) {
            CHECK.due("word " + bad, x.word(bad, 0), -1001);
            CHECK.due("begin of word " + bad, x.begin(bad), -1001);
        }
        for (int bad : new int[] {MIN, -1, 3, MAX}) {
            CHECK.due("line " + bad, x.line(bad, 0), -1001);
            CHECK.due("space of line " + bad, x.space(bad, 0, 0), -1001);
            CHECK.due("second of line " + bad, x.second(bad, 0), -1001);
            CHECK.due("take second of line " + bad, x.takeSecond(bad), -1001);
            CHECK.due("class " + bad, x.setSpace(bad, 1, 1, 1), -1001);
            CHECK.due("width of class " + bad, x.spaceWidth(bad, 0), -1001);
        }
        for (int bad : new int[] {MIN, -1, 1, MAX}) {
            CHECK.due("space " + bad, x.space(0, bad, 0), -1001);
            CHECK.due("river " + bad, x.river(bad, 0), -1001);
        }
        CHECK.due("the last word", x.word(6, 0), 6);
        CHECK.due("the last line", x.line(2, 0), 5);
        CHECK.due("the last space", x.space(1, 1, 2), 0);
        CHECK.due("the last river", x.river(0, 0), 200);
    }

    private static void badValues() {
        CHECK.due("the constant", BAD_VALUE, -1002);
        RiverJustifier x = taken("a b");
        int[][] outside = {{9, 201}, {-1, 101}, {-1, 21}};
        for (int i = 0; i < 2; i++) {
            CHECK.due("setMeasure", x.setMeasure(outside[0][i]), -1002);
            CHECK.due("setHang", x.setHang(outside[1][i]), -1002);
            CHECK.due("setTolerance", x.setTolerance(outside[2][i]), -1002);
        }
        CHECK.due("setSpace", x.setSpace(0, 0, 1, 1), -1002);
        for (int i = 0; i < 2; i++) {
            CHECK.due("count", x.count(i == 0 ? -1 : 10), -1002);
            CHECK.due("spaceWidth", x.spaceWidth(0, i == 0 ? -1 : 3), -1002);
            CHECK.due("word", x.word(0, i == 0 ? -1 : 4), -1002);
            CHECK.due("line", x.line(0, i == 0 ? -1 : 9), -1002);
            CHECK.due("space", x.space(0, 0, i == 0 ? -1 : 4), -1002);
            CHECK.due("second", x.second(0, i == 0 ? -1 : 2), -1002);
        }
        CHECK.due("worst", x.worst(-1), -1002);
        CHECK.due("river", x.river(0, -1), -1002);
    }

    private static void full() {
        CHECK.due("the constant", FULL, -1003);
        RiverJustifier x = new RiverJustifier();
        Check.typeAll(x, "a".repeat(119));
        CHECK.due("room for one", x.type('a'), 120);
        CHECK.due("no more room", x.type('a'), -1003);
        x.clearText();
        CHECK.due("room again", x.type('a'), 1);
    }

    private static void nones() {
        CHECK.due("the constant", NONE, -1004);
        RiverJustifier x = new RiverJustifier();
        CHECK.due("no layout", x.layBest(), -1004);
        CHECK.due("no worst line", x.worst(0), -1004);
        Check.read(x, "iii");
        CHECK.due("no second choice", x.second(0, 0), -1004);
        CHECK.due("none to take", x.takeSecond(0), -1004);
        CHECK.due("no second worst line", x.worst(1), -1004);
        RiverJustifier y = Check.with(10, 0, "iiiiii");
        CHECK.due("no line of a word", y.word(0, 3), -1004);
        CHECK.due("no beginning", y.begin(0), -1004);
        CHECK.due("a river that is not so long", taken("a b").river(0, 3), -1004);
    }
}
