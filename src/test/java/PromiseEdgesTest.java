import java.io.IOException;

/** One test for each sentence of the promises 1 to 21 that names a boundary case. */
public final class PromiseEdgesTest {
    private static final Check CHECK = new Check();
    private static final int UNKNOWN = RiverJustifier.UNKNOWN;
    private static final int BAD_VALUE = RiverJustifier.BAD_VALUE;
    private static final int FULL = RiverJustifier.FULL;
    private static final int NONE = RiverJustifier.NONE;
    private static final int MIN = Integer.MIN_VALUE;
    private static final int MAX = Integer.MAX_VALUE;

    private PromiseEdgesTest() {
    }

    public static void main(String[] args) throws IOException {
        Document document = new Document(CHECK);
        document.section("What it is");
        document.plain("A justifier for a paragraph: lines of an exact width are made by stretching and squeezing "
            + "spaces within the limits of their classes, marks hang over both edges, breaks have the least demerits, "
            + "second choices of lines are told and can be taken, rivers of spaces are found and broken up, "
            + "and the worst lines are told.");
        document.test("An object is used for at most 512 calls after it has been made; what later calls answer "
            + "is free.", PromiseEdgesTest::manyCalls);
        document.end("What it is");
        texts(document);
        settings(document);
        spaceSettings(document);
        layouts(document);
        counts(document);
        words(document);
        linesAndSpaces(document);
        secondsAndWorst(document);
        riverSteps(document);
        for (int promise = 1; promise <= 21; promise++) {
            document.end("Promise " + promise);
        }
        CHECK.end();
    }

    private static void manyCalls() {
        RiverJustifier x = new RiverJustifier();
        int calls = 0;
        while (calls < 120) {
            CHECK.due("type", x.type("iii ".charAt(calls % 4)), calls + 1);
            calls++;
        }
        CHECK.due("measure", x.setMeasure(24), 60);
        CHECK.due("spaces", x.setSpace(0, 1, 3, 12), 3);
        CHECK.due("words", x.readParagraph(), 30);
        calls += 3;
        while (calls < 511) {
            CHECK.due("strength before call " + calls, x.count(6), 16);
            calls++;
        }
        CHECK.due("the 512th call breaks up rivers", x.breakRivers() > 0 ? 1 : 0, 1);
    }

    private static void texts(Document document) {
        document.section("Promise 1");
        document.test("Creates an empty paragraph.", PromiseEdgesTest::newObject);
        document.section("Promise 2");
        document.test("Appends a character to the text.", PromiseEdgesTest::appends);
        document.test("- `character`: any character", PromiseEdgesTest::anyCharacter);
        document.test("Returns the length of the text then; FULL if it has 120 characters.",
            PromiseEdgesTest::fullText);
        document.section("Promise 3");
        document.test("Empties the text.", PromiseEdgesTest::emptiesText);
        document.test("Returns the length that it had.", PromiseEdgesTest::lengthsOfTexts);
        document.section("Promise 4");
        document.test("Makes the text, which stays, the paragraph.", PromiseEdgesTest::textStaysAfterReading);
        document.test("Returns the number of words; ", PromiseEdgesTest::numbersOfWords);
        document.test("-100 minus the fault of the text if it has one.", PromiseEdgesTest::faultsOfTexts);
        document.section("Promise 5");
        document.test("Carries out the text, which stays, as a command.", PromiseEdgesTest::textStaysAfterCommand);
        document.test("Returns the number of lines of the layout then, 0 if there is none; ",
            PromiseEdgesTest::linesAfterCommand);
        document.test("-100 minus the fault of the text if it has one.", PromiseEdgesTest::faultsOfCommands);
    }

    private static void newObject() {
        RiverJustifier x = new RiverJustifier();
        int[] counts = {0, 0, 0, 0, 0, 0, 0, 60, 50, 2};
        for (int what = 0; what < counts.length; what++) {
            CHECK.due("count(" + what + ")", x.count(what), counts[what]);
        }
        CHECK.due("layBest()", x.layBest(), NONE);
        CHECK.due("breakRivers()", x.breakRivers(), 0);
        CHECK.due("takeSecond(0)", x.takeSecond(0), UNKNOWN);
        CHECK.due("word(0, 0)", x.word(0, 0), UNKNOWN);
        CHECK.due("begin(0)", x.begin(0), UNKNOWN);
        CHECK.due("worst(0)", x.worst(0), NONE);
        CHECK.due("clearText()", x.clearText(), 0);
        Check.read(x, "one two");
        x.setMeasure(100);
        CHECK.due("another object has no words", new RiverJustifier().count(0), 0);
        CHECK.due("and the first measure", new RiverJustifier().count(7), 60);
    }

    private static void appends() {
        RiverJustifier x = new RiverJustifier();
        x.type('a');
        x.type('b');
        x.type(' ');
        x.type('c');
        CHECK.due("words", x.readParagraph(), 2);
        CHECK.due("characters of the first", x.word(0, 1), 2);
        CHECK.due("it goes behind what is there", x.type('d'), 5);
        CHECK.due("words", x.readParagraph(), 2);
        CHECK.due("characters of the second", x.word(1, 1), 2);
    }

    private static void anyCharacter() {
        char[] any = {0, 1, '\n', ' ', 'a', '#', 127, 128, 255, 256, 0x20ac, 0xd800, 0xdfff, 0xfffe, 0xffff};
        RiverJustifier x = new RiverJustifier();
        for (int i = 0; i < any.length; i++) {
            CHECK.due("character " + (int) any[i], x.type(any[i]), i + 1);
        }
        CHECK.due("length", x.clearText(), any.length);
    }

    private static void fullText() {
        RiverJustifier x = new RiverJustifier();
        for (int i = 1; i <= 120; i++) {
            CHECK.due("character " + i, x.type('i'), i);
        }
        CHECK.due("character 121", x.type(' '), FULL);
        CHECK.due("and again", x.type('#'), FULL);
        CHECK.due("they are not in the text", x.readParagraph(), 1);
        CHECK.due("its length", x.clearText(), 120);
        CHECK.due("after clearing", x.type('i'), 1);
    }

    private static void emptiesText() {
        RiverJustifier x = Check.with(60, 50, "ab cd");
        x.clearText();
        CHECK.due("the paragraph stays", x.count(0), 2);
        CHECK.due("an empty command", x.command(), -100);
        CHECK.due("an empty paragraph", x.readParagraph(), 0);
        CHECK.due("a first character", x.type('x'), 1);
        CHECK.due("is a word", x.readParagraph(), 1);
        CHECK.due("of one character", x.word(0, 1), 1);
    }

    private static void lengthsOfTexts() {
        RiverJustifier x = new RiverJustifier();
        CHECK.due("an empty text", x.clearText(), 0);
        x.type(' ');
        CHECK.due("one character", x.clearText(), 1);
        CHECK.due("it is empty then", x.clearText(), 0);
        Check.typeAll(x, "a".repeat(120));
        CHECK.due("a full text", x.clearText(), 120);
        CHECK.due("it is empty then", x.clearText(), 0);
    }

    private static void textStaysAfterReading() {
        RiverJustifier x = Check.with(60, 50, "ab cd");
        CHECK.due("it can be read again", x.readParagraph(), 2);
        CHECK.due("and grow", x.type('_'), 6);
        CHECK.due("a faulty one", x.readParagraph(), -105);
        CHECK.due("stays, too", x.clearText(), 6);
        CHECK.due("and the paragraph with it", x.count(0), 2);
        Check.read(x, "measure 20");
        CHECK.due("it can be a command afterwards", x.command(), 0);
        CHECK.due("which is carried out", x.count(7), 20);
    }

    private static void numbersOfWords() {
        CHECK.due("none", new RiverJustifier().readParagraph(), 0);
        CHECK.due("none among blanks", Check.read(new RiverJustifier(), "   "), 0);
        CHECK.due("one", Check.read(new RiverJustifier(), "M".repeat(120)), 1);
        CHECK.due("the most", Check.read(new RiverJustifier(), "M ".repeat(60)), 60);
        RiverJustifier x = new RiverJustifier();
        Check.read(x, "M ".repeat(60));
        CHECK.due("fewer than before", Check.read(x, "it is"), 2);
        CHECK.due("the others are gone", x.word(2, 0), UNKNOWN);
    }

    private static void faultsOfTexts() {
        CHECK.due("the first character", Check.read(new RiverJustifier(), "#"), -100);
        CHECK.due("the second character", Check.read(new RiverJustifier(), "a#"), -101);
        CHECK.due("the last one", Check.read(new RiverJustifier(), " ".repeat(119) + "#"), -219);
        CHECK.due("two", Check.read(new RiverJustifier(), "ab##"), -102);
    }

    private static void textStaysAfterCommand() {
        RiverJustifier x = new RiverJustifier();
        CHECK.due("a command", Check.command(x, "measure 20"), 0);
        CHECK.due("stays", x.command(), 0);
        CHECK.due("and can grow", x.type('0'), 11);
        CHECK.due("it is another one then", x.command(), 0);
        CHECK.due("the measure", x.count(7), 200);
        x.type('0');
        CHECK.due("a faulty one", x.command(), -108);
        CHECK.due("stays, too", x.clearText(), 12);
        CHECK.due("the measure", x.count(7), 200);
    }

    private static void linesAfterCommand() {
        RiverJustifier x = new RiverJustifier();
        CHECK.due("without words", Check.command(x, "measure 15"), 0);
        Check.read(x, "iii iii iii iii");
        CHECK.due("two lines", Check.command(x, "measure 18"), 2);
        CHECK.due("without a way", Check.command(x, "measure 19"), 0);
        CHECK.due("still without a way", Check.command(x, "hang 1"), 0);
        CHECK.due("one line", Check.command(x, "measure 33"), 1);
        CHECK.due("the same setting", Check.command(x, "river 2"), 1);
        CHECK.due("another class", Check.command(x, "space clause 1 1 1"), 1);
        CHECK.due("one word too many then", Check.command(x, "space word 3 4 5"), 1);
        CHECK.due("no room", Check.command(x, "space word 4 4 4"), 0);
    }

    private static void faultsOfCommands() {
        RiverJustifier x = Check.with(60, 50, "iii");
        CHECK.due("the least fault", Check.command(x, ""), -100);
        CHECK.due("the first piece", Check.command(x, "lines 3"), -100);
        CHECK.due("a later piece", Check.command(x, "space sentence 040 040 039"), -123);
        CHECK.due("the length", Check.command(x, "space sentence 040 040"), -122);
        CHECK.due("one piece too many", Check.command(x, "space sentence 040 040 040 " + "0".repeat(93)), -127);
        CHECK.due("an empty one", Check.command(x, "space sentence 040 040 040 "), -127);
        CHECK.due("the line stays", x.count(1), 1);
    }

    private static void settings(Document document) {
        document.section("Promise 6");
        document.plain("Sets the measure.");
        document.test("- `measure`: 10 to 200", PromiseEdgesTest::rangeOfMeasure);
        document.test("Returns the previous measure; BAD_VALUE.", PromiseEdgesTest::previousMeasure);
        document.section("Promise 7");
        document.plain("Sets the hang.");
        document.test("- `hang`: 0 to 100", PromiseEdgesTest::rangeOfHang);
        document.test("Returns the previous hang; BAD_VALUE.", PromiseEdgesTest::previousHang);
        document.section("Promise 8");
        document.plain("Sets the tolerance of rivers.");
        document.test("- `tolerance`: 0 to 20", PromiseEdgesTest::rangeOfTolerance);
        document.test("Returns the previous tolerance; BAD_VALUE.", PromiseEdgesTest::previousTolerance);
    }

    private static boolean isBad(int answer) {
        return answer == BAD_VALUE;
    }

    private static void rangeOfMeasure() {
        RiverJustifier x = new RiverJustifier();
        for (int value = -20; value <= 230; value++) {
            CHECK.due("measure " + value, isBad(x.setMeasure(value)) ? 0 : 1, value >= 10 && value <= 200 ? 1 : 0);
        }
        CHECK.due("the greatest int", x.setMeasure(MAX), BAD_VALUE);
        CHECK.due("the least int", x.setMeasure(MIN), BAD_VALUE);
        CHECK.due("60 in its low bytes", x.setMeasure(60 + 65536), BAD_VALUE);
    }

    private static void previousMeasure() {
        RiverJustifier x = new RiverJustifier();
        CHECK.due("the first", x.setMeasure(10), 60);
        CHECK.due("the least", x.setMeasure(10), 10);
        CHECK.due("refused", x.setMeasure(9), BAD_VALUE);
        CHECK.due("not the refused one", x.setMeasure(200), 10);
        CHECK.due("the greatest", x.setMeasure(60), 200);
        Check.command(x, "measure 77");
        CHECK.due("that of a command", x.setMeasure(60), 77);
    }

    private static void rangeOfHang() {
        RiverJustifier x = new RiverJustifier();
        for (int value = -20; value <= 130; value++) {
            CHECK.due("hang " + value, isBad(x.setHang(value)) ? 0 : 1, value >= 0 && value <= 100 ? 1 : 0);
        }
        CHECK.due("the greatest int", x.setHang(MAX), BAD_VALUE);
        CHECK.due("the least int", x.setHang(MIN), BAD_VALUE);
        CHECK.due("50 in its low bytes", x.setHang(50 + 65536), BAD_VALUE);
    }

    private static void previousHang() {
        RiverJustifier x = new RiverJustifier();
        CHECK.due("the first", x.setHang(0), 50);
        CHECK.due("the least", x.setHang(0), 0);
        CHECK.due("refused", x.setHang(-1), BAD_VALUE);
        CHECK.due("not the refused one", x.setHang(100), 0);
        CHECK.due("the greatest", x.setHang(50), 100);
        Check.command(x, "hang 77");
        CHECK.due("that of a command", x.setHang(50), 77);
    }

    private static void rangeOfTolerance() {
        RiverJustifier x = new RiverJustifier();
        for (int value = -20; value <= 50; value++) {
            CHECK.due("tolerance " + value, isBad(x.setTolerance(value)) ? 0 : 1, value >= 0 && value <= 20 ? 1 : 0);
        }
        CHECK.due("the greatest int", x.setTolerance(MAX), BAD_VALUE);
        CHECK.due("the least int", x.setTolerance(MIN), BAD_VALUE);
        CHECK.due("2 in its low bytes", x.setTolerance(2 + 65536), BAD_VALUE);
    }

    private static void previousTolerance() {
        RiverJustifier x = new RiverJustifier();
        CHECK.due("the first", x.setTolerance(0), 2);
        CHECK.due("the least", x.setTolerance(0), 0);
        CHECK.due("refused", x.setTolerance(21), BAD_VALUE);
        CHECK.due("not the refused one", x.setTolerance(20), 0);
        CHECK.due("the greatest", x.setTolerance(2), 20);
        Check.command(x, "river 7");
        CHECK.due("that of a command", x.setTolerance(2), 7);
    }

    private static void spaceSettings(Document document) {
        document.section("Promise 9");
        document.plain("Sets the widths of a class of spaces.");
        document.test("- `kind`: the class, 0 to 2", PromiseEdgesTest::rangeOfKind);
        document.test("- `least`: 1 to 40", PromiseEdgesTest::rangeOfLeast);
        document.test("- `natural`: at least least, at most 40", PromiseEdgesTest::rangeOfNatural);
        document.test("- `greatest`: at least natural, at most 40", PromiseEdgesTest::rangeOfGreatest);
        document.test("Returns the previous natural width; UNKNOWN for the class; BAD_VALUE.",
            PromiseEdgesTest::previousNatural);
        document.section("Promise 14");
        document.test("- `kind`: the class of spaces, 0 to 2", PromiseEdgesTest::kindsOfWidths);
        document.test("- `what`: 0 for its least, 1 for its natural, 2 for its greatest width",
            PromiseEdgesTest::namesOfWidths);
        document.test("Returns the width; UNKNOWN; BAD_VALUE.", PromiseEdgesTest::answersOfWidths);
    }

    private static void rangeOfKind() {
        RiverJustifier x = new RiverJustifier();
        int[] naturals = {3, 4, 5};
        for (int kind = -5; kind < 10; kind++) {
            boolean there = kind >= 0 && kind < 3;
            CHECK.due("class " + kind, x.setSpace(kind, 6, 7, 8), there ? naturals[kind] : UNKNOWN);
        }
        CHECK.due("the greatest int", x.setSpace(MAX, 6, 7, 8), UNKNOWN);
        CHECK.due("the least int", x.setSpace(MIN, 6, 7, 8), UNKNOWN);
    }

    private static void rangeOfLeast() {
        RiverJustifier x = new RiverJustifier();
        for (int least = -5; least < 50; least++) {
            int answer = x.setSpace(0, least, 40, 40);
            CHECK.due("least " + least, isBad(answer) ? 0 : 1, least >= 1 && least <= 40 ? 1 : 0);
        }
        CHECK.due("the greatest int", x.setSpace(0, MAX, 40, 40), BAD_VALUE);
        CHECK.due("the least int", x.setSpace(0, MIN, 40, 40), BAD_VALUE);
        CHECK.due("the last that was right", x.spaceWidth(0, 0), 40);
    }

    private static void rangeOfNatural() {
        RiverJustifier x = new RiverJustifier();
        for (int natural = -5; natural < 50; natural++) {
            int answer = x.setSpace(1, 7, natural, 40);
            CHECK.due("natural " + natural, isBad(answer) ? 0 : 1, natural >= 7 && natural <= 40 ? 1 : 0);
        }
        CHECK.due("the greatest int", x.setSpace(1, 7, MAX, MAX), BAD_VALUE);
        CHECK.due("the least int", x.setSpace(1, MIN, MIN, 40), BAD_VALUE);
        CHECK.due("the last that was right", x.spaceWidth(1, 1), 40);
    }

    private static void rangeOfGreatest() {
        RiverJustifier x = new RiverJustifier();
        for (int greatest = -5; greatest < 50; greatest++) {
            int answer = x.setSpace(2, 7, 9, greatest);
            CHECK.due("greatest " + greatest, isBad(answer) ? 0 : 1, greatest >= 9 && greatest <= 40 ? 1 : 0);
        }
        CHECK.due("the greatest int", x.setSpace(2, 7, 9, MAX), BAD_VALUE);
        CHECK.due("the least int", x.setSpace(2, 7, 9, MIN), BAD_VALUE);
        CHECK.due("the last that was right", x.spaceWidth(2, 2), 40);
    }

    private static void previousNatural() {
        RiverJustifier x = new RiverJustifier();
        CHECK.due("the first of class 0", x.setSpace(0, 1, 1, 1), 3);
        CHECK.due("the first of class 1", x.setSpace(1, 40, 40, 40), 4);
        CHECK.due("the first of class 2", x.setSpace(2, 3, 30, 40), 5);
        CHECK.due("the least", x.setSpace(0, 1, 1, 1), 1);
        CHECK.due("the greatest", x.setSpace(1, 1, 2, 3), 40);
        CHECK.due("refused", x.setSpace(2, 4, 3, 5), BAD_VALUE);
        CHECK.due("not the refused one", x.setSpace(2, 1, 2, 3), 30);
        CHECK.due("the class before the widths", x.setSpace(3, 4, 3, 5), UNKNOWN);
    }

    private static void kindsOfWidths() {
        RiverJustifier x = new RiverJustifier();
        CHECK.due("class 0", x.spaceWidth(0, 1), 3);
        CHECK.due("class 2", x.spaceWidth(2, 1), 5);
        for (int bad : new int[] {MIN, -1, 3, MAX}) {
            CHECK.due("class " + bad, x.spaceWidth(bad, 1), UNKNOWN);
        }
    }

    private static void namesOfWidths() {
        RiverJustifier x = new RiverJustifier();
        x.setSpace(1, 11, 12, 13);
        for (int what = 0; what < 3; what++) {
            CHECK.due("width " + what, x.spaceWidth(1, what), 11 + what);
        }
        for (int bad : new int[] {MIN, -1, 3, MAX}) {
            CHECK.due("width " + bad, x.spaceWidth(1, bad), BAD_VALUE);
        }
    }

    private static void answersOfWidths() {
        RiverJustifier x = new RiverJustifier();
        x.setSpace(0, 1, 1, 1);
        x.setSpace(2, 40, 40, 40);
        CHECK.due("the least width", x.spaceWidth(0, 0), 1);
        CHECK.due("the greatest width", x.spaceWidth(2, 2), 40);
        CHECK.due("the class is looked at first", x.spaceWidth(3, 3), UNKNOWN);
        CHECK.due("the class is looked at first", x.spaceWidth(-1, -1), UNKNOWN);
    }

    private static void layouts(Document document) {
        document.section("Promise 10");
        document.test("Makes the layout the best one again.", PromiseEdgesTest::bestAgain);
        document.test("Returns the number of its lines; NONE if there is none.", PromiseEdgesTest::linesOfBest);
        document.section("Promise 11");
        document.plain("Takes the second choice of a line.");
        document.test("- `line`: the line", PromiseEdgesTest::linesToTake);
        document.test("Returns the number of lines of the layout then; UNKNOWN; NONE if it has none.",
            PromiseEdgesTest::linesAfterTaking);
        document.section("Promise 12");
        document.plain("Breaks up rivers.");
        document.test("Returns how many second choices were taken (0 without a layout).",
            PromiseEdgesTest::numbersOfTaken);
    }

    private static void bestAgain() {
        RiverJustifier x = Check.sixes(6, 20, 1, 3, 8);
        x.takeSecond(0);
        x.takeSecond(1);
        CHECK.dueRow("taken", Check.breaks(x), 1, 3, 5);
        CHECK.due("layBest()", x.layBest(), 2);
        CHECK.dueRow("best", Check.breaks(x), 2, 5);
        CHECK.due("layBest() once more", x.layBest(), 2);
        CHECK.dueRow("best", Check.breaks(x), 2, 5);
        RiverJustifier y = Check.columns(15);
        y.breakRivers();
        y.layBest();
        CHECK.due("the rivers are back, too", y.count(6), 6);
    }

    private static void linesOfBest() {
        CHECK.due("no words", new RiverJustifier().layBest(), NONE);
        CHECK.due("no way", Check.sixes(4, 13, 2, 3, 6).layBest(), NONE);
        CHECK.due("one line", Check.sixes(1, 13, 2, 3, 6).layBest(), 1);
        CHECK.due("the most lines", Check.with(10, 0, "MM ".repeat(40)).layBest(), 40);
    }

    private static void linesToTake() {
        RiverJustifier x = Check.sixes(6, 20, 1, 3, 8);
        for (int bad : new int[] {MIN, -1, 2, MAX}) {
            CHECK.due("line " + bad, x.takeSecond(bad), UNKNOWN);
        }
        CHECK.dueRow("as before", Check.breaks(x), 2, 5);
        CHECK.due("the last line", x.takeSecond(1), 3);
        CHECK.dueRow("taken", Check.breaks(x), 2, 4, 5);
        CHECK.due("a line more can be taken now", x.takeSecond(2), NONE);
    }

    private static void linesAfterTaking() {
        RiverJustifier x = Check.sixes(3, 20, 1, 3, 8);
        CHECK.due("one more", x.takeSecond(0), 2);
        CHECK.due("one less", x.takeSecond(0), 1);
        CHECK.due("UNKNOWN", x.takeSecond(1), UNKNOWN);
        CHECK.due("NONE", Check.sixes(1, 20, 1, 3, 8).takeSecond(0), NONE);
        CHECK.due("UNKNOWN without a layout", Check.sixes(4, 13, 2, 3, 6).takeSecond(0), UNKNOWN);
        CHECK.due("UNKNOWN without words", new RiverJustifier().takeSecond(0), UNKNOWN);
    }

    private static void numbersOfTaken() {
        CHECK.due("no words", new RiverJustifier().breakRivers(), 0);
        CHECK.due("no way", Check.sixes(4, 13, 2, 3, 6).breakRivers(), 0);
        CHECK.due("no rivers", Check.columns(6).breakRivers(), 0);
        CHECK.due("one", Check.columns(15).breakRivers(), 1);
        CHECK.due("several", Check.columns(24).breakRivers(), 3);
        RiverJustifier x = Check.with(15, 50, "i ".repeat(60));
        x.setTolerance(3);
        x.setSpace(0, 1, 4, 17);
        CHECK.due("the most", x.breakRivers(), 10);
    }

    private static void counts(Document document) {
        document.section("Promise 13");
        document.test("- `what`: 0 for the number of words, ", PromiseEdgesTest::countOfWords);
        document.test("1 for the number of lines (0 without a layout), 2 for the sum of the demerits "
            + "(0 without a layout), 3 for that of the best layout (0 without one), ",
            PromiseEdgesTest::countsOfLayout);
        document.test("4 for the number of rivers, ", PromiseEdgesTest::countOfRivers);
        document.test("5 for the greatest length of a space (0 without spaces), ", PromiseEdgesTest::countOfLengths);
        document.test("6 for the strength of all rivers ", PromiseEdgesTest::countOfStrength);
        document.test("(4 to 6 are 0 without a layout), ", PromiseEdgesTest::countsWithoutLayout);
        document.test("7 for the measure, 8 for the hang, 9 for the tolerance", PromiseEdgesTest::countsOfSettings);
        document.test("Returns the number; BAD_VALUE.", PromiseEdgesTest::badCounts);
    }

    private static void countOfWords() {
        RiverJustifier x = new RiverJustifier();
        CHECK.due("at first", x.count(0), 0);
        Check.read(x, "i ".repeat(60));
        CHECK.due("the most", x.count(0), 60);
        x.setMeasure(10);
        Check.read(x, "iiiiii iiiiii");
        CHECK.due("without a layout there are words", x.count(0), 2);
        Check.read(x, "  ");
        CHECK.due("none again", x.count(0), 0);
    }

    private static void countsOfLayout() {
        RiverJustifier x = Check.sixes(6, 20, 1, 3, 8);
        CHECK.due("lines", x.count(1), 2);
        CHECK.due("demerits", x.count(2), 24200);
        CHECK.due("demerits of the best", x.count(3), 24200);
        x.takeSecond(0);
        CHECK.due("lines", x.count(1), 3);
        CHECK.due("demerits", x.count(2), 24300);
        CHECK.due("demerits of the best", x.count(3), 24200);
        x.setMeasure(11);
        for (int what = 1; what < 4; what++) {
            CHECK.due("count(" + what + ") without a layout", x.count(what), 0);
            CHECK.due("count(" + what + ") without words", new RiverJustifier().count(what), 0);
        }
        // Lines with the worst badness that there can be, and short words at their ends.
        RiverJustifier most = Check.with(10, 0, "m ".repeat(60));
        CHECK.due("demerits of 30 bad lines", most.count(2), 29 * (12100 + 100) + 12100);
    }

    private static void countOfRivers() {
        CHECK.due("lengths of 2", Check.columns(6).count(4), 0);
        CHECK.due("lengths of 3", Check.columns(9).count(4), 2);
        CHECK.due("one line", Check.columns(3).count(4), 0);
    }

    private static void countOfLengths() {
        CHECK.due("one word", Check.columns(1).count(5), 0);
        CHECK.due("lines of one word each", Check.with(12, 0, "iiiiii iiiiii ii").count(5), 0);
        CHECK.due("one space", Check.columns(2).count(5), 1);
        CHECK.due("not only of rivers", Check.columns(6).count(5), 2);
        CHECK.due("the last line has no space", Check.columns(10).count(5), 3);
        CHECK.due("that of the last line is 1", Check.with(24, 0, "iii iii iii iii iii iii iiiii iii").count(5), 2);
        CHECK.due("the longest", Check.with(10, 0, "m ".repeat(60)).count(5), 30);
    }

    private static void countOfStrength() {
        CHECK.due("no rivers", Check.columns(6).count(6), 0);
        CHECK.due("two of 3", Check.columns(9).count(6), 2);
        CHECK.due("5 and 4", Check.columns(14).count(6), 5);
    }

    private static void countsWithoutLayout() {
        RiverJustifier x = Check.columns(15);
        x.setMeasure(12);
        RiverJustifier y = Check.columns(15);
        Check.read(y, "");
        for (int what = 4; what < 7; what++) {
            CHECK.due("count(" + what + ") without a way", x.count(what), 0);
            CHECK.due("count(" + what + ") without words", y.count(what), 0);
        }
    }

    private static void countsOfSettings() {
        RiverJustifier x = new RiverJustifier();
        CHECK.due("the first measure", x.count(7), 60);
        CHECK.due("the first hang", x.count(8), 50);
        CHECK.due("the first tolerance", x.count(9), 2);
        x.setMeasure(200);
        x.setHang(0);
        x.setTolerance(20);
        CHECK.due("the measure", x.count(7), 200);
        CHECK.due("the hang", x.count(8), 0);
        CHECK.due("the tolerance", x.count(9), 20);
    }

    private static void badCounts() {
        RiverJustifier x = Check.columns(9);
        for (int bad : new int[] {MIN, -2, -1, 10, 11, 256, MAX}) {
            CHECK.due("count(" + bad + ")", x.count(bad), BAD_VALUE);
            CHECK.due("count(" + bad + ") of a new object", new RiverJustifier().count(bad), BAD_VALUE);
        }
    }

    private static void words(Document document) {
        document.section("Promise 15");
        document.test("- `word`: the word", PromiseEdgesTest::numbersOfWord);
        document.test("- `what`: 0 for its width, 1 for the number of its characters, "
            + "2 for the class of a space behind it, ", PromiseEdgesTest::propertiesOfWord);
        document.test("3 for the line in which it is (NONE without a layout)", PromiseEdgesTest::lineOfWord);
        document.test("Returns the property; UNKNOWN; BAD_VALUE.", PromiseEdgesTest::answersOfWord);
        document.section("Promise 18");
        document.test("Returns the beginning of a word in its line.", PromiseEdgesTest::beginnings);
        document.test("- `word`: the word", PromiseEdgesTest::wordsThatBegin);
        document.test("Returns the beginning; UNKNOWN; NONE without a layout.", PromiseEdgesTest::answersOfBegin);
    }

    private static void numbersOfWord() {
        RiverJustifier x = Check.with(60, 50, "iii a");
        CHECK.due("the first", x.word(0, 0), 6);
        CHECK.due("the last", x.word(1, 0), 3);
        for (int bad : new int[] {MIN, -1, 2, 60, MAX}) {
            CHECK.due("word " + bad, x.word(bad, 0), UNKNOWN);
            CHECK.due("word " + bad + " of a new object", new RiverJustifier().word(bad, 0), UNKNOWN);
        }
    }

    private static void propertiesOfWord() {
        RiverJustifier x = Check.with(200, 50, "' Wm! " + "a".repeat(30) + ", .");
        int[][] due = {{1, 1, 0}, {10, 3, 2}, {91, 31, 1}, {1, 1, 2}};
        for (int word = 0; word < 4; word++) {
            for (int what = 0; what < 3; what++) {
                CHECK.due("word(" + word + ", " + what + ")", x.word(word, what), due[word][what]);
            }
        }
        x.setMeasure(10);
        CHECK.due("its width without a layout", x.word(1, 0), 10);
        CHECK.due("its class without a layout", x.word(1, 2), 2);
    }

    private static void lineOfWord() {
        RiverJustifier x = Check.sixes(6, 20, 1, 3, 8);
        int[] best = {0, 0, 0, 1, 1, 1};
        int[] taken = {0, 0, 1, 1, 1, 2};
        for (int word = 0; word < 6; word++) {
            CHECK.due("line of word " + word, x.word(word, 3), best[word]);
        }
        x.takeSecond(0);
        for (int word = 0; word < 6; word++) {
            CHECK.due("line of word " + word + " after takeSecond", x.word(word, 3), taken[word]);
        }
        x.setMeasure(11);
        for (int word = 0; word < 6; word++) {
            CHECK.due("line of word " + word + " without a layout", x.word(word, 3), NONE);
        }
    }

    private static void answersOfWord() {
        RiverJustifier x = Check.with(60, 50, "iii a");
        for (int bad : new int[] {MIN, -1, 4, MAX}) {
            CHECK.due("property " + bad, x.word(0, bad), BAD_VALUE);
            CHECK.due("the word is looked at first", x.word(2, bad), UNKNOWN);
        }
        CHECK.due("no such word", x.word(2, 3), UNKNOWN);
    }

    private static void beginnings() {
        RiverJustifier x = Check.with(15, 100, "iii iii (iii iii 'iii iii");
        int[] begins = {0, 9, -2, 9, -1, 9};
        for (int word = 0; word < begins.length; word++) {
            CHECK.due("begin(" + word + ")", x.begin(word), begins[word]);
        }
        CHECK.due("a line of one mark", Check.with(60, 100, "\"").begin(0), -2);
        CHECK.due("the end of the widest line", Check.with(200, 0, "i".repeat(97) + " i").begin(1), 197);
    }

    private static void wordsThatBegin() {
        RiverJustifier x = Check.with(60, 50, "iii a");
        CHECK.due("the first", x.begin(0), 0);
        CHECK.due("the last", x.begin(1), 9);
        for (int bad : new int[] {MIN, -1, 2, 60, MAX}) {
            CHECK.due("begin(" + bad + ")", x.begin(bad), UNKNOWN);
        }
    }

    private static void answersOfBegin() {
        RiverJustifier x = Check.with(10, 50, "iiiiii i");
        CHECK.due("NONE without a layout", x.begin(0), NONE);
        CHECK.due("NONE without a layout", x.begin(1), NONE);
        CHECK.due("UNKNOWN is looked at first", x.begin(2), UNKNOWN);
        CHECK.due("UNKNOWN is looked at first", x.begin(-1), UNKNOWN);
        CHECK.due("UNKNOWN without words", new RiverJustifier().begin(0), UNKNOWN);
    }

    private static void linesAndSpaces(Document document) {
        document.section("Promise 16");
        document.test("- `line`: the line", PromiseEdgesTest::numbersOfLine);
        document.test("- `what`: 0 for its first word, 1 for its last word, 2 for its natural width, 3 for D, "
            + "4 for its badness, 5 for its demerits, 6 for what hangs on the left, 7 for what hangs on the right, ",
            PromiseEdgesTest::propertiesOfLine);
        document.test("8 for its width (with its spaces as they have become): from the beginning of its first word "
            + "to the end of its last word, minus what hangs on both sides", PromiseEdgesTest::widthOfLine);
        document.test("Returns the property; UNKNOWN; BAD_VALUE.", PromiseEdgesTest::answersOfLine);
        document.section("Promise 17");
        document.test("- `line`: the line", PromiseEdgesTest::linesOfSpaces);
        document.test("- `space`: the number of a space in the line, from 0", PromiseEdgesTest::numbersOfSpace);
        document.test("- `what`: 0 for its width, 1 for its beginning, 2 for its class, 3 for its length "
            + "(as in RIVERS)", PromiseEdgesTest::propertiesOfSpace);
        document.test("Returns the property; UNKNOWN; BAD_VALUE.", PromiseEdgesTest::answersOfSpace);
    }

    /** Two lines, the first one over both edges and narrowed by 1, the second one natural. */
    private static RiverJustifier marked() {
        return Check.with(45, 50, "(aa. aaa, aaa aa- iiiiii i.");
    }

    private static void numbersOfLine() {
        RiverJustifier x = marked();
        CHECK.due("the first", x.line(0, 1), 3);
        CHECK.due("the last", x.line(1, 1), 5);
        for (int bad : new int[] {MIN, -1, 2, MAX}) {
            CHECK.due("line " + bad, x.line(bad, 1), UNKNOWN);
        }
        x.setMeasure(10);
        CHECK.due("without a layout", x.line(0, 1), UNKNOWN);
        CHECK.due("without words", new RiverJustifier().line(0, 1), UNKNOWN);
    }

    private static void propertiesOfLine() {
        RiverJustifier x = marked();
        int[][] due = {{0, 3, 46, -1, 4, 14 * 14, 1, 1}, {4, 5, 18, 27, 0, 100, 0, 0}};
        for (int line = 0; line < 2; line++) {
            for (int what = 0; what < 8; what++) {
                CHECK.due("line(" + line + ", " + what + ")", x.line(line, what), due[line][what]);
            }
        }
        CHECK.due("first and last word of a line of one word", Check.columns(1).line(0, 1), 0);
    }

    private static void widthOfLine() {
        CHECK.due("narrowed", marked().line(0, 8), 45);
        CHECK.due("the last line", marked().line(1, 8), 18);
        CHECK.due("widened", Check.sixes(4, 18, 2, 3, 6).line(0, 8), 18);
        CHECK.due("the last line, narrowed", Check.sixes(4, 14, 2, 3, 6).line(1, 8), 14);
        CHECK.due("less than nothing", Check.with(60, 100, "\"").line(0, 8), -2);
        CHECK.due("both marks hang", Check.with(60, 100, "(a-").line(0, 8), 3);
    }

    private static void answersOfLine() {
        RiverJustifier x = marked();
        for (int bad : new int[] {MIN, -1, 9, MAX}) {
            CHECK.due("property " + bad, x.line(0, bad), BAD_VALUE);
            CHECK.due("the line is looked at first", x.line(2, bad), UNKNOWN);
        }
    }

    private static void linesOfSpaces() {
        RiverJustifier x = marked();
        CHECK.due("the first", x.space(0, 0, 0), 5);
        CHECK.due("the last", x.space(1, 0, 0), 3);
        for (int bad : new int[] {MIN, -1, 2, MAX}) {
            CHECK.due("line " + bad, x.space(bad, 0, 0), UNKNOWN);
        }
        x.setMeasure(10);
        CHECK.due("without a layout", x.space(0, 0, 0), UNKNOWN);
    }

    private static void numbersOfSpace() {
        RiverJustifier x = marked();
        CHECK.due("the first", x.space(0, 0, 2), 2);
        CHECK.due("the last", x.space(0, 2, 2), 0);
        for (int bad : new int[] {MIN, -1, 3, 4, MAX}) {
            CHECK.due("space " + bad, x.space(0, bad, 2), UNKNOWN);
        }
        CHECK.due("the line has one", x.space(1, 1, 2), UNKNOWN);
        CHECK.due("a line of one word", Check.columns(1).space(0, 0, 2), UNKNOWN);
    }

    private static void propertiesOfSpace() {
        RiverJustifier x = marked();
        // The words begin at -1, 13, 26 and 38.
        int[][] due = {{5, 8, 2, 1}, {3, 23, 1, 1}, {3, 35, 0, 1}};
        for (int space = 0; space < 3; space++) {
            for (int what = 0; what < 4; what++) {
                CHECK.due("space(0, " + space + ", " + what + ")", x.space(0, space, what), due[space][what]);
            }
        }
        CHECK.due("a length of 1 more than that above", Check.columns(9).space(2, 1, 3), 3);
        CHECK.due("it begins over the edge", Check.with(60, 100, "\" iii").space(0, 0, 1), 0);
    }

    private static void answersOfSpace() {
        RiverJustifier x = marked();
        for (int bad : new int[] {MIN, -1, 4, MAX}) {
            CHECK.due("property " + bad, x.space(0, 0, bad), BAD_VALUE);
            CHECK.due("the line is looked at first", x.space(2, 0, bad), UNKNOWN);
            CHECK.due("the space is looked at first", x.space(0, 3, bad), UNKNOWN);
        }
    }

    private static void secondsAndWorst(Document document) {
        document.section("Promise 19");
        document.plain("Tells about the second choice of a line.");
        document.test("- `line`: the line", PromiseEdgesTest::linesOfSeconds);
        document.test("- `what`: 0 for the last word of the line with it, "
            + "1 for the sum of the demerits of all lines with it", PromiseEdgesTest::propertiesOfSecond);
        document.test("Returns the number; UNKNOWN; BAD_VALUE; NONE if there is none.",
            PromiseEdgesTest::answersOfSecond);
        document.section("Promise 20");
        document.plain("Returns a line by its badness.");
        document.test("- `rank`: 0 for the line with the greatest badness, 1 for the next one, and so on; "
            + "of lines with the same badness the one with the lower number comes first", PromiseEdgesTest::ranks);
        document.test("Returns the line; BAD_VALUE if rank is negative; NONE if there are not so many lines.",
            PromiseEdgesTest::answersOfWorst);
    }

    private static void linesOfSeconds() {
        RiverJustifier x = Check.sixes(6, 20, 1, 3, 8);
        CHECK.due("the first", x.second(0, 0), 1);
        CHECK.due("the last", x.second(1, 0), 4);
        for (int bad : new int[] {MIN, -1, 2, MAX}) {
            CHECK.due("line " + bad, x.second(bad, 0), UNKNOWN);
        }
        x.setMeasure(11);
        CHECK.due("without a layout", x.second(0, 0), UNKNOWN);
    }

    private static void propertiesOfSecond() {
        RiverJustifier x = Check.sixes(6, 20, 1, 3, 8);
        CHECK.due("last word", x.second(1, 0), 4);
        CHECK.due("demerits", x.second(1, 1), 24300);
        CHECK.due("telling takes nothing", x.count(2), 24200);
        x.takeSecond(1);
        CHECK.due("what was told is so", x.line(1, 1), 4);
        CHECK.due("what was told is so", x.count(2), 24300);
        RiverJustifier y = Check.sixes(3, 20, 1, 3, 8);
        y.takeSecond(0);
        CHECK.due("the last word of the paragraph", y.second(0, 0), 2);
        CHECK.due("its demerits as a last line", y.second(0, 1), 12100);
    }

    private static void answersOfSecond() {
        RiverJustifier x = Check.sixes(4, 15, 2, 3, 6);
        for (int what = 0; what < 2; what++) {
            CHECK.due("none", x.second(0, what), NONE);
            CHECK.due("none for the last line", x.second(1, what), NONE);
        }
        for (int bad : new int[] {MIN, -1, 2, MAX}) {
            CHECK.due("property " + bad + " before NONE", x.second(0, bad), BAD_VALUE);
            CHECK.due("the line is looked at first", x.second(2, bad), UNKNOWN);
            CHECK.due("property " + bad, Check.sixes(6, 20, 1, 3, 8).second(0, bad), BAD_VALUE);
        }
    }

    private static void ranks() {
        RiverJustifier x = Check.with(20, 0, "iiiiiiiiii iii iii iii iii");
        x.setSpace(0, 1, 3, 8);
        CHECK.dueRow("badness 0, 100 and 0", Check.breaks(x), 0, 3, 4);
        CHECK.due("the greatest", x.worst(0), 1);
        CHECK.due("of the same the lower number", x.worst(1), 0);
        CHECK.due("of the same the higher number", x.worst(2), 2);
        RiverJustifier y = Check.columns(9);
        for (int rank = 0; rank < 3; rank++) {
            CHECK.due("all the same", y.worst(rank), rank);
        }
        // A short word at its end makes a line dearer, not worse.
        RiverJustifier z = Check.with(18, 0, "aaa aa aaa iii, aa");
        CHECK.dueRow("two lines, the second one worse", Check.breaks(z), 1, 3, 4);
        CHECK.due("the greatest", z.worst(0), 1);
    }

    private static void answersOfWorst() {
        RiverJustifier x = Check.columns(9);
        CHECK.due("the last rank", x.worst(2), 2);
        CHECK.due("one more", x.worst(3), NONE);
        CHECK.due("the greatest int", x.worst(MAX), NONE);
        CHECK.due("negative", x.worst(-1), BAD_VALUE);
        CHECK.due("the least int", x.worst(MIN), BAD_VALUE);
        CHECK.due("no lines", new RiverJustifier().worst(0), NONE);
        CHECK.due("negative without lines", new RiverJustifier().worst(-1), BAD_VALUE);
        x.setMeasure(12);
        CHECK.due("no layout", x.worst(0), NONE);
        RiverJustifier most = Check.with(10, 0, "MM ".repeat(40));
        CHECK.due("the last of the most lines", most.worst(39), 39);
        CHECK.due("one more", most.worst(40), NONE);
    }

    private static void riverSteps(Document document) {
        document.section("Promise 21");
        document.plain("Returns a space of a river.");
        document.test("- `river`: the river", PromiseEdgesTest::numbersOfRiver);
        document.test("- `step`: 0 for the space in which it ends, 1 for the one above, and so on",
            PromiseEdgesTest::steps);
        document.test("Returns the line of the space times 100, plus its number in the line; ",
            PromiseEdgesTest::numbersOfRiverSpaces);
        document.test("UNKNOWN; BAD_VALUE if step is negative; NONE if the river is not so long.",
            PromiseEdgesTest::answersOfRiver);
    }

    private static void numbersOfRiver() {
        RiverJustifier x = Check.columns(9);
        CHECK.due("the first", x.river(0, 0), 200);
        CHECK.due("the last", x.river(1, 0), 201);
        for (int bad : new int[] {MIN, -1, 2, MAX}) {
            CHECK.due("river " + bad, x.river(bad, 0), UNKNOWN);
        }
        CHECK.due("lengths of 2 are no rivers", Check.columns(6).river(0, 0), UNKNOWN);
        CHECK.due("without words", new RiverJustifier().river(0, 0), UNKNOWN);
        x.setMeasure(12);
        CHECK.due("without a layout", x.river(0, 0), UNKNOWN);
    }

    private static void steps() {
        RiverJustifier x = Check.columns(9);
        CHECK.due("the end", x.river(1, 0), 201);
        CHECK.due("above", x.river(1, 1), 101);
        CHECK.due("the beginning", x.river(1, 2), 1);
        CHECK.due("no more", x.river(1, 3), NONE);
    }

    private static void numbersOfRiverSpaces() {
        RiverJustifier x = Check.with(10, 0, "m ".repeat(60));
        for (int step = 0; step < 30; step++) {
            CHECK.due("step " + step, x.river(0, step), (29 - step) * 100);
        }
        // Nine spaces in a line, and a tolerance in which each is near to that above it alone.
        RiverJustifier y = Check.with(47, 0, "i ".repeat(30));
        y.setTolerance(0);
        CHECK.dueRow("three lines", Check.breaks(y), 9, 19, 29);
        CHECK.due("rivers", y.count(4), 9);
        CHECK.due("the last one", y.river(8, 0), 208);
        CHECK.due("its beginning", y.river(8, 2), 8);
    }

    private static void answersOfRiver() {
        RiverJustifier x = Check.columns(9);
        CHECK.due("negative", x.river(0, -1), BAD_VALUE);
        CHECK.due("the least int", x.river(0, MIN), BAD_VALUE);
        CHECK.due("one step too many", x.river(0, 3), NONE);
        CHECK.due("the greatest int", x.river(0, MAX), NONE);
        CHECK.due("the river is looked at first", x.river(2, -1), UNKNOWN);
        CHECK.due("the river is looked at first", x.river(2, 3), UNKNOWN);
        CHECK.due("the river is looked at first", x.river(-1, -1), UNKNOWN);
    }
}
