import java.io.IOException;

/** One test for each sentence of PARAGRAPH, SPACES and LINES that names a boundary case. */
public final class ParagraphEdgesTest {
    private static final Check CHECK = new Check();
    private static final int UNKNOWN = RiverJustifier.UNKNOWN;
    private static final int BAD_VALUE = RiverJustifier.BAD_VALUE;
    // Widths 10, 10, 9, 9 and 36; the four first words are 50 wide with natural spaces,
    // their stretch is 5 + 4 + 3, their shrink 2 + 2 + 1, and they are a line from 45 to 62.
    private static final String MIXED = "aaa. aaa, aaa aaa " + "i".repeat(18);

    private ParagraphEdgesTest() {
    }

    public static void main(String[] args) throws IOException {
        Document document = new Document(CHECK);
        paragraph(document);
        spaces(document);
        lines(document);
        justified(document);
        document.end("PARAGRAPH", "SPACES", "LINES");
        CHECK.end();
    }

    private static void paragraph(Document document) {
        document.section("PARAGRAPH");
        document.test("The paragraph has at most 120 characters: letters a to z and A to Z, digits, "
            + "the signs . , ; : ! ? - ' \" ( ) and blanks.", ParagraphEdgesTest::allowedCharacters);
        document.test("Its words are the longest stretches of characters that are not blanks, "
            + "numbered from 0; blanks only separate words.", ParagraphEdgesTest::wordsBetweenBlanks);
        document.test("It is empty at first.", ParagraphEdgesTest::emptyAtFirst);
        document.test("The width of a character is: 2 for f, i, j, l, r, t; 4 for m, w; "
            + "3 for all other letters a to z; 2 for I; 5 for M, W; 4 for all other letters A to Z; "
            + "3 for digits; 1 for . , ; : ! '; 2 for ? - \" ( ).", ParagraphEdgesTest::characterWidths);
        document.test("The width of a word is the sum of the widths of its characters.",
            ParagraphEdgesTest::wordWidths);
    }

    private static void allowedCharacters() {
        RiverJustifier x = new RiverJustifier();
        Check.typeAll(x, "M".repeat(120));
        CHECK.due("a character more", x.type('M'), RiverJustifier.FULL);
        CHECK.due("one word", x.readParagraph(), 1);
        CHECK.due("of 120 characters", x.word(0, 1), 120);
        // The neighbours of the letters, digits and signs, and what looks like some of them elsewhere.
        char[] wrong = {0, 9, 10, 31, '#', '$', '%', '&', '*', '+', '/', '<', '=', '>', '@', '[', '\\', ']', '^',
            '_', '`', '{', '|', '}', '~', 127, 160, 255, ' ' + 256, 'a' + 256, '.' + 256, 0x0660, 0xff21, 0xffff};
        for (char sign : wrong) {
            CHECK.due("character " + (int) sign, Check.read(new RiverJustifier(), "a" + sign), -101);
        }
        CHECK.due("all that is allowed", Check.read(x, "azbyAZBY 0918 .,;:!?-'\"()"), 3);
    }

    private static void wordsBetweenBlanks() {
        RiverJustifier x = new RiverJustifier();
        CHECK.due("blanks all around", Check.read(x, "   ab    c  "), 2);
        CHECK.due("the first word", x.word(0, 1), 2);
        CHECK.due("the second word", x.word(1, 1), 1);
        CHECK.due("no third word", x.word(2, 1), UNKNOWN);
        CHECK.due("no word before the first", x.word(-1, 1), UNKNOWN);
        CHECK.due("only one blank", Check.read(x, " "), 0);
        CHECK.due("only blanks", Check.read(x, " ".repeat(120)), 0);
        CHECK.due("no blank", Check.read(x, "a-b.c,d"), 1);
        CHECK.due("the most words", Check.read(x, " i".repeat(60)), 60);
        CHECK.due("the last one", x.word(59, 1), 1);
        CHECK.due("no word behind it", x.word(60, 1), UNKNOWN);
    }

    private static void emptyAtFirst() {
        RiverJustifier x = new RiverJustifier();
        CHECK.due("words", x.count(0), 0);
        CHECK.due("word(0, 1)", x.word(0, 1), UNKNOWN);
        CHECK.due("begin(0)", x.begin(0), UNKNOWN);
        x.type('a');
        CHECK.due("words before a text is read", x.count(0), 0);
    }

    private static void characterWidths() {
        String[] byWidth = {".,;:!'", "fijlrtI?-\"()", "abcdeghknopqsuvxyz0123456789", "mwABCDEFGHJKLNOPQRSTUVXYZ",
            "MW"};
        for (int i = 0; i < byWidth.length; i++) {
            for (char sign : byWidth[i].toCharArray()) {
                CHECK.due("word " + sign, Check.read(new RiverJustifier(), "" + sign), 1);
                RiverJustifier x = Check.with(60, 0, "" + sign);
                CHECK.due("width of " + sign, x.word(0, 0), i + 1);
            }
        }
    }

    private static void wordWidths() {
        CHECK.due("the narrowest word", Check.with(60, 100, "'").word(0, 0), 1);
        CHECK.due("the widest word", Check.with(60, 100, "W".repeat(120)).word(0, 0), 600);
        RiverJustifier x = Check.with(60, 100, "(iM' .8w\"");
        CHECK.due("hanging takes nothing from a word", x.word(0, 0), 2 + 2 + 5 + 1);
        CHECK.due("the second word", x.word(1, 0), 1 + 3 + 4 + 2);
    }

    private static void spaces(Document document) {
        document.section("SPACES");
        document.test("Between two words of a line there is a space.", ParagraphEdgesTest::spacesBetweenWords);
        document.test("Its class depends on the last character of the word before it: 2 (sentence) for . ! ?, "
            + "1 (clause) for , ; :, and 0 (word) for any other.", ParagraphEdgesTest::classes);
        document.test("Each class has a least, a natural and a greatest width, 1 to 40, "
            + "with least <= natural <= greatest; ", ParagraphEdgesTest::classWidths);
        document.test("at first 2, 3, 6 for words, 2, 4, 8 for clauses, 3, 5, 10 for sentences.",
            ParagraphEdgesTest::firstClassWidths);
    }

    private static void spacesBetweenWords() {
        RiverJustifier x = Check.with(60, 0, "iii");
        CHECK.due("a line of one word has no space", x.space(0, 0, 0), UNKNOWN);
        Check.read(x, "iii iii");
        CHECK.due("two words have one", x.space(0, 0, 0), 3);
        CHECK.due("and no other", x.space(0, 1, 0), UNKNOWN);
        CHECK.due("nor one before the line", x.space(0, -1, 0), UNKNOWN);
        x.setMeasure(15);
        Check.read(x, "iii iii iii iii");
        CHECK.due("two lines", x.count(1), 2);
        CHECK.due("no space between them", x.space(0, 1, 0), UNKNOWN);
        CHECK.due("nor at the end", x.space(1, 1, 0), UNKNOWN);
        RiverJustifier y = Check.with(200, 0, "i ".repeat(60));
        y.setSpace(0, 1, 1, 1);
        CHECK.due("60 words in a line", y.count(1), 1);
        CHECK.due("have a 59th space", y.space(0, 58, 0), 1);
        CHECK.due("and no 60th", y.space(0, 59, 0), UNKNOWN);
    }

    private static void classes() {
        String[] texts = {"a .a ,a a) a.) a,' a;\" a- 9 (", "a, ; : .,", "a. ! ? ,."};
        for (int kind = 0; kind < 3; kind++) {
            RiverJustifier x = Check.with(200, 0, texts[kind] + " end");
            int spaces = x.count(0) - 1;
            for (int space = 0; space < spaces; space++) {
                CHECK.due("class behind word " + space + " of " + texts[kind], x.space(0, space, 2), kind);
            }
            CHECK.due("spaces of " + texts[kind], x.space(0, spaces, 2), UNKNOWN);
        }
    }

    private static void classWidths() {
        for (int kind = 0; kind < 3; kind++) {
            RiverJustifier x = new RiverJustifier();
            int natural = x.spaceWidth(kind, 1);
            CHECK.due("all least", x.setSpace(kind, 1, 1, 1), natural);
            CHECK.due("all greatest", x.setSpace(kind, 40, 40, 40), 1);
            CHECK.due("all there is", x.setSpace(kind, 1, 7, 40), 40);
            CHECK.due("least too small", x.setSpace(kind, 0, 7, 40), BAD_VALUE);
            CHECK.due("greatest too large", x.setSpace(kind, 1, 7, 41), BAD_VALUE);
            CHECK.due("natural too large", x.setSpace(kind, 1, 41, 41), BAD_VALUE);
            CHECK.due("least too large", x.setSpace(kind, 41, 41, 41), BAD_VALUE);
            CHECK.due("least greater than natural", x.setSpace(kind, 8, 7, 40), BAD_VALUE);
            CHECK.due("natural greater than greatest", x.setSpace(kind, 1, 7, 6), BAD_VALUE);
            CHECK.due("least as it was", x.spaceWidth(kind, 0), 1);
            CHECK.due("natural as it was", x.spaceWidth(kind, 1), 7);
            CHECK.due("greatest as it was", x.spaceWidth(kind, 2), 40);
        }
    }

    private static void firstClassWidths() {
        RiverJustifier x = new RiverJustifier();
        int[][] widths = {{2, 3, 6}, {2, 4, 8}, {3, 5, 10}};
        for (int kind = 0; kind < 3; kind++) {
            for (int what = 0; what < 3; what++) {
                CHECK.due("spaceWidth(" + kind + ", " + what + ")", x.spaceWidth(kind, what), widths[kind][what]);
            }
        }
    }

    private static void lines(Document document) {
        document.section("LINES");
        document.test("The measure is from 10 to 200, at first 60.", ParagraphEdgesTest::measures);
        document.test("The hang is a percentage from 0 to 100, at first 50.", ParagraphEdgesTest::hangs);
        document.test("If the first character of the first word of a line is ' or \" or (, it hangs on the left, ",
            ParagraphEdgesTest::leftHangs);
        document.test("and if the last character of its last word is one of . , ; : ! ? - ' \", "
            + "it hangs on the right; ", ParagraphEdgesTest::rightHangs);
        document.test("a character that hangs lies over the edge by its width times the hang, divided by 100, "
            + "rounded down.", ParagraphEdgesTest::hangsRoundedDown);
        document.test("(A line whose only character is one of ' \" hangs on both sides.)",
            ParagraphEdgesTest::onlyCharacter);
        document.test("The natural width of a line is the sum of the widths of its words "
            + "and the natural widths of its spaces, minus what hangs over the edges.",
            ParagraphEdgesTest::naturalWidths);
        document.test("The difference D of a line is the measure minus its natural width.",
            ParagraphEdgesTest::differences);
        document.test("The stretch of a line is the sum, over its spaces, of the greatest minus the natural width, "
            + "its shrink that of the natural minus the least width.", ParagraphEdgesTest::stretchAndShrink);
    }

    private static void measures() {
        RiverJustifier x = new RiverJustifier();
        CHECK.due("at first", x.count(7), 60);
        CHECK.due("the least", x.setMeasure(10), 60);
        CHECK.due("the greatest", x.setMeasure(200), 10);
        CHECK.due("too small", x.setMeasure(9), BAD_VALUE);
        CHECK.due("too large", x.setMeasure(201), BAD_VALUE);
        CHECK.due("far too small", x.setMeasure(Integer.MIN_VALUE), BAD_VALUE);
        CHECK.due("far too large", x.setMeasure(Integer.MAX_VALUE), BAD_VALUE);
        CHECK.due("then", x.count(7), 200);
    }

    private static void hangs() {
        RiverJustifier x = new RiverJustifier();
        CHECK.due("at first", x.count(8), 50);
        CHECK.due("the least", x.setHang(0), 50);
        CHECK.due("the greatest", x.setHang(100), 0);
        CHECK.due("too small", x.setHang(-1), BAD_VALUE);
        CHECK.due("too large", x.setHang(101), BAD_VALUE);
        CHECK.due("far too small", x.setHang(Integer.MIN_VALUE), BAD_VALUE);
        CHECK.due("far too large", x.setHang(Integer.MAX_VALUE), BAD_VALUE);
        CHECK.due("then", x.count(8), 100);
    }

    private static void dueHangs(int what, String word, String marks, int width) {
        for (char sign : marks.toCharArray()) {
            String text = word.replace('*', sign);
            CHECK.due("what hangs of " + text, Check.with(60, 100, text).line(0, what), width);
        }
    }

    private static void leftHangs() {
        dueHangs(6, "*aa aa", "'", 1);
        dueHangs(6, "*aa aa", "\"(", 2);
        dueHangs(6, "*aa aa", ".,;:!?-)aA0", 0);
        // Only the first character, and only in the first word of a line.
        dueHangs(6, "a*a aa", "'\"(", 0);
        dueHangs(6, "aa *aa", "'\"(", 0);
        RiverJustifier x = Check.with(15, 100, "iii iii (iii iii");
        CHECK.due("the first line", x.line(0, 6), 0);
        CHECK.due("the second line", x.line(1, 6), 2);
    }

    private static void rightHangs() {
        dueHangs(7, "aa aa*", ".,;:!'", 1);
        dueHangs(7, "aa aa*", "?-\"", 2);
        dueHangs(7, "aa aa*", "()aA0", 0);
        // Only the last character, and only in the last word of a line.
        dueHangs(7, "aa a*a", ".,;:!?-'\"", 0);
        dueHangs(7, "aa* aa", ".,;:!?-'\"", 0);
        RiverJustifier x = Check.with(15, 100, "iii iii- iii iii");
        CHECK.due("the first line", x.line(0, 7), 2);
        CHECK.due("the second line", x.line(1, 7), 0);
    }

    private static void hangsRoundedDown() {
        int[][] byHang = {{0, 0, 0}, {1, 0, 0}, {49, 0, 0}, {50, 0, 1}, {51, 0, 1}, {99, 0, 1}, {100, 1, 2}};
        RiverJustifier narrow = Check.with(60, 0, "'aa aa.");
        RiverJustifier wide = Check.with(60, 0, "(aa aa?");
        for (int[] due : byHang) {
            narrow.setHang(due[0]);
            wide.setHang(due[0]);
            for (int what = 6; what < 8; what++) {
                CHECK.due("width 1, hang " + due[0], narrow.line(0, what), due[1]);
                CHECK.due("width 2, hang " + due[0], wide.line(0, what), due[2]);
            }
        }
    }

    private static void onlyCharacter() {
        for (char sign : "'\"(.,;:!?-)".toCharArray()) {
            RiverJustifier x = Check.with(60, 100, "" + sign);
            int width = x.word(0, 0);
            CHECK.due("left of " + sign, x.line(0, 6), "'\"(".indexOf(sign) >= 0 ? width : 0);
            CHECK.due("right of " + sign, x.line(0, 7), "()".indexOf(sign) >= 0 ? 0 : width);
        }
        RiverJustifier x = Check.with(60, 50, "\"");
        CHECK.due("half of it on the left", x.line(0, 6), 1);
        CHECK.due("half of it on the right", x.line(0, 7), 1);
        CHECK.due("so nothing is left of it", x.line(0, 2), 0);
    }

    private static void naturalWidths() {
        CHECK.due("one word", Check.with(60, 100, "iii").line(0, 2), 6);
        CHECK.due("spaces of all classes", Check.with(60, 0, "i. i, i i").line(0, 2), 3 + 5 + 3 + 4 + 2 + 3 + 2);
        CHECK.due("hanging on both sides", Check.with(60, 100, "(i i-").line(0, 2), 4 + 3 + 4 - 2 - 2);
        CHECK.due("less than nothing", Check.with(60, 100, "\"").line(0, 2), -2);
        RiverJustifier x = Check.with(62, 0, MIXED);
        CHECK.due("the spaces are wider than that", x.line(0, 2), 50);
        x.setMeasure(45);
        CHECK.due("the spaces are narrower than that", x.line(0, 2), 50);
    }

    private static void differences() {
        CHECK.due("nothing", Check.with(50, 0, MIXED).line(0, 3), 0);
        CHECK.due("greater", Check.with(62, 0, MIXED).line(0, 3), 12);
        CHECK.due("less", Check.with(45, 0, MIXED).line(0, 3), -5);
        CHECK.due("the last line", Check.with(45, 0, MIXED).line(1, 3), 9);
        CHECK.due("more than the measure", Check.with(200, 100, "\"").line(0, 3), 202);
    }

    private static void stretchAndShrink() {
        CHECK.due("without a space, 0 is the most", Check.with(12, 0, "iiiiii iiiiii iiiiii").count(1), 3);
        CHECK.due("one more", Check.with(13, 0, "iiiiii iiiiii iiiiii").count(1), 0);
        CHECK.due("one less", Check.with(11, 0, "iiiiii iiiiii iiiiii").count(1), 0);
        // Of spaces of all classes it is the sum.
        CHECK.due("12 more", Check.with(62, 0, MIXED).count(1), 2);
        CHECK.due("13 more", Check.with(63, 0, MIXED).count(1), 0);
        CHECK.due("5 less", Check.with(45, 0, MIXED).count(1), 2);
        CHECK.due("6 less", Check.with(44, 0, MIXED).count(1), 0);
        RiverJustifier x = Check.with(50, 0, MIXED);
        for (int kind = 0; kind < 3; kind++) {
            int natural = x.spaceWidth(kind, 1);
            x.setSpace(kind, natural, natural, natural);
        }
        CHECK.due("no room and no need of it", x.count(1), 2);
        x.setMeasure(51);
        CHECK.due("no stretch", x.count(1), 0);
        x.setMeasure(49);
        CHECK.due("no shrink", x.count(1), 0);
    }

    private static void justified(Document document) {
        document.test("A line is possible if D is from minus its shrink to its stretch; ",
            ParagraphEdgesTest::possibleLines);
        document.test("the last line of the paragraph is also possible if D is greater.",
            ParagraphEdgesTest::possibleLastLines);
        document.test("In the last line, nothing is done if D is 0 or more.", ParagraphEdgesTest::lastLines);
        document.test("Otherwise the spaces become wider (D greater than 0) or narrower (less than 0) by 1, "
            + "one after the other, in rounds, until D units have been shared out: ", ParagraphEdgesTest::units);
        document.test("in each round, each space once, in the order of their classes 2, 1, 0 "
            + "when they become wider, 1, 2, 0 when they become narrower, and in each class from left to right; ",
            ParagraphEdgesTest::rounds);
        document.test("a space that has its greatest (least) width is passed over.", ParagraphEdgesTest::passedOver);
        document.test("So each line but the last one has exactly the measure as its width.",
            ParagraphEdgesTest::exactWidths);
        document.test("The badness of a line is 100 * D * D divided by the square of its stretch "
            + "(D greater than 0) or of its shrink (less than 0), rounded down; ", ParagraphEdgesTest::badness);
        document.test("it is 0 if D is 0, and for a last line with D greater than 0.",
            ParagraphEdgesTest::noBadness);
        document.test("The demerits of a line are the square of (10 + its badness), plus 100 "
            + "if it is not the last line and its last word has at most 2 characters.", ParagraphEdgesTest::demerits);
    }

    private static void possibleLines() {
        // Two words of 6 with a space of 3, which has a stretch of 3 and a shrink of 1.
        CHECK.dueRow("D is the stretch", Check.breaks(Check.sixes(4, 18, 2, 3, 6)), 1, 3);
        CHECK.due("D is greater", Check.sixes(4, 19, 2, 3, 6).count(1), 0);
        CHECK.dueRow("D is minus the shrink", Check.breaks(Check.sixes(4, 14, 2, 3, 6)), 1, 3);
        CHECK.due("D is less", Check.sixes(4, 13, 2, 3, 6).count(1), 0);
        CHECK.dueRow("D is 0", Check.breaks(Check.sixes(4, 15, 2, 3, 6)), 1, 3);
        // The widest and the narrowest space that there can be.
        RiverJustifier x = Check.with(52, 0, "iii iii " + "i".repeat(20));
        x.setSpace(0, 1, 1, 40);
        CHECK.dueRow("D is 39", Check.breaks(x), 1, 2);
        x.setMeasure(53);
        CHECK.due("D is 40", x.count(1), 0);
        RiverJustifier y = Check.with(13, 0, "iii iii iiiiii");
        y.setSpace(0, 1, 40, 40);
        CHECK.dueRow("D is -39", Check.breaks(y), 1, 2);
        y.setMeasure(12);
        CHECK.due("D is -40", y.count(1), 0);
    }

    private static void possibleLastLines() {
        CHECK.due("D is 200 without a stretch", Check.with(200, 100, "'a'").line(0, 3), 200 - 3);
        CHECK.due("D is 1 without a stretch", Check.with(16, 0, "MMM").count(1), 1);
        CHECK.due("D is 0", Check.with(15, 0, "MMM").count(1), 1);
        CHECK.due("D is less without a shrink", Check.with(14, 0, "MMM").count(1), 0);
        CHECK.due("D is minus the shrink", Check.sixes(2, 14, 2, 3, 6).count(1), 1);
        CHECK.due("D is less than that", Check.sixes(2, 13, 2, 3, 6).count(1), 0);
        CHECK.due("a line before it has no such right", Check.with(16, 0, "MMM MMM").count(1), 0);
    }

    private static void dueSpaces(RiverJustifier x, int line, int... want) {
        for (int space = 0; space < want.length; space++) {
            CHECK.due("width of space " + space, x.space(line, space, 0), want[space]);
        }
        CHECK.due("no more spaces", x.space(line, want.length, 0), UNKNOWN);
    }

    private static void lastLines() {
        // 25 of the words and 13 of the spaces.
        String text = "iii iii, iii. iii";
        int[] measures = {200, 43, 39, 38};
        for (int measure : measures) {
            RiverJustifier x = Check.with(measure, 0, text);
            CHECK.due("D", x.line(0, 3), measure - 38);
            CHECK.due("its width", x.line(0, 8), 38);
            dueSpaces(x, 0, 3, 4, 5);
        }
        RiverJustifier x = Check.with(37, 0, text);
        CHECK.due("D", x.line(0, 3), -1);
        CHECK.due("its width", x.line(0, 8), 37);
        dueSpaces(x, 0, 3, 3, 5);
    }

    private static void units() {
        dueSpaces(Check.with(50, 0, MIXED), 0, 5, 4, 3);
        dueSpaces(Check.with(51, 0, MIXED), 0, 6, 4, 3);
        dueSpaces(Check.with(49, 0, MIXED), 0, 5, 3, 3);
        // A round ends in its middle, or exactly with D.
        dueSpaces(Check.with(55, 0, MIXED), 0, 7, 6, 4);
        dueSpaces(Check.with(56, 0, MIXED), 0, 7, 6, 5);
        dueSpaces(Check.with(46, 0, MIXED), 0, 4, 2, 2);
        // All that there is.
        dueSpaces(Check.with(62, 0, MIXED), 0, 10, 8, 6);
        dueSpaces(Check.with(45, 0, MIXED), 0, 3, 2, 2);
        // As many rounds as there can be.
        RiverJustifier x = Check.with(52, 0, "iii iii " + "i".repeat(20));
        x.setSpace(0, 1, 1, 40);
        dueSpaces(x, 0, 40);
        RiverJustifier y = Check.with(13, 0, "iii iii iiiiii");
        y.setSpace(0, 1, 40, 40);
        dueSpaces(y, 0, 1);
    }

    private static void rounds() {
        // The classes from left to right are 0, 1, 2, and the natural width is 38 + 12.
        String text = "aaa aaa, aaa. aaa " + "i".repeat(18);
        dueSpaces(Check.with(51, 0, text), 0, 3, 4, 6);
        dueSpaces(Check.with(52, 0, text), 0, 3, 5, 6);
        dueSpaces(Check.with(53, 0, text), 0, 4, 5, 6);
        dueSpaces(Check.with(54, 0, text), 0, 4, 5, 7);
        dueSpaces(Check.with(49, 0, text), 0, 3, 3, 5);
        dueSpaces(Check.with(48, 0, text), 0, 3, 3, 4);
        dueSpaces(Check.with(47, 0, text), 0, 2, 3, 4);
        dueSpaces(Check.with(46, 0, text), 0, 2, 2, 4);
        // Of one class, 33 wide.
        String same = "iii iii iii iii iiiiiiiiii";
        dueSpaces(Check.with(34, 0, same), 0, 4, 3, 3);
        dueSpaces(Check.with(35, 0, same), 0, 4, 4, 3);
        dueSpaces(Check.with(37, 0, same), 0, 5, 4, 4);
        dueSpaces(Check.with(32, 0, same), 0, 2, 3, 3);
        dueSpaces(Check.with(31, 0, same), 0, 2, 2, 3);
    }

    private static void passedOver() {
        // The space for words, then that for clauses has its greatest (least) width.
        dueSpaces(Check.with(60, 0, MIXED), 0, 9, 7, 6);
        dueSpaces(Check.with(61, 0, MIXED), 0, 9, 8, 6);
        dueSpaces(Check.with(46, 0, MIXED), 0, 4, 2, 2);
        dueSpaces(Check.with(45, 0, MIXED), 0, 3, 2, 2);
        // A class that has it from the beginning.
        RiverJustifier x = Check.with(51, 0, MIXED);
        x.setSpace(2, 5, 5, 5);
        dueSpaces(x, 0, 5, 5, 3);
        x.setMeasure(57);
        dueSpaces(x, 0, 5, 8, 6);
        x.setMeasure(48);
        dueSpaces(x, 0, 5, 3, 2);
        x.setMeasure(47);
        dueSpaces(x, 0, 5, 2, 2);
    }

    private static void exactWidths() {
        for (int measure = 45; measure <= 62; measure++) {
            RiverJustifier x = Check.with(measure, 50, MIXED);
            CHECK.due("width of the first line", x.line(0, 8), measure);
            CHECK.due("width of the last line", x.line(1, 8), 36);
        }
        // Over both edges.
        RiverJustifier x = Check.with(18, 100, "(iii 'iii, iii. iii");
        CHECK.due("width of the first line", x.line(0, 8), 18);
        CHECK.due("from its beginning", x.begin(0), -2);
        CHECK.due("to its end", x.begin(1) + x.word(1, 0), 19);
        RiverJustifier y = Check.with(12, 0, "iiiiii iiiiii ii");
        CHECK.due("width of a line of one word", y.line(1, 8), 12);
    }

    private static void badness() {
        int[] wider = {0, 11, 44, 100};
        for (int d = 0; d < wider.length; d++) {
            CHECK.due("D of 3 is " + d, Check.sixes(4, 15 + d, 2, 3, 6).line(0, 4), wider[d]);
        }
        CHECK.due("D of -1 is -1", Check.sixes(4, 14, 2, 3, 6).line(0, 4), 100);
        // Three words of 6 with spaces of 4; 1 of 22, and the stretch differs from the shrink.
        CHECK.due("rounded down to 0", Check.sixes(5, 27, 1, 4, 15).line(0, 4), 0);
        CHECK.due("the shrink counts", Check.sixes(5, 25, 1, 4, 15).line(0, 4), 2);
        CHECK.due("the greatest D", widest(52).line(0, 4), 100);
        CHECK.due("one less", widest(51).line(0, 4), 94);
    }

    private static RiverJustifier widest(int measure) {
        RiverJustifier x = Check.with(measure, 0, "iii iii " + "i".repeat(20));
        x.setSpace(0, 1, 1, 40);
        return x;
    }

    private static void noBadness() {
        RiverJustifier x = Check.with(12, 0, "iiiiii iiiiii iii");
        CHECK.due("D is 0 without a space", x.line(0, 4), 0);
        CHECK.due("a last line with D without a space", x.line(2, 4), 0);
        CHECK.due("D is 0", Check.sixes(4, 15, 2, 3, 6).line(0, 4), 0);
        CHECK.due("D is 0 in the last line", Check.sixes(4, 15, 2, 3, 6).line(1, 4), 0);
        CHECK.due("D is the stretch of the last line", Check.sixes(2, 18, 2, 3, 6).line(0, 4), 0);
        CHECK.due("D is greater than that", Check.sixes(2, 200, 2, 3, 6).line(0, 4), 0);
        CHECK.due("a last line that is too wide", Check.sixes(3, 23, 1, 3, 8).line(0, 4), 6);
        CHECK.due("a last line that is far too wide", Check.sixes(3, 20, 1, 3, 8).line(0, 4), 100);
    }

    private static void demerits() {
        CHECK.due("without badness", Check.sixes(4, 15, 2, 3, 6).line(0, 5), 100);
        CHECK.due("with badness 11", Check.sixes(4, 16, 2, 3, 6).line(0, 5), 21 * 21);
        CHECK.due("with the greatest badness", Check.sixes(4, 18, 2, 3, 6).line(0, 5), 110 * 110);
        RiverJustifier x = Check.with(15, 0, "iii aa iii aa");
        CHECK.due("a last word of 2 characters", x.line(0, 5), 200);
        CHECK.due("in the last line", x.line(1, 5), 100);
        CHECK.due("a last word of 2 characters, one a sign", Check.with(15, 0, "iii M' iii M'").line(0, 5), 200);
        RiverJustifier y = Check.with(14, 0, "iii M iii M");
        CHECK.due("a last word of 1 character", y.line(0, 5), 200);
        CHECK.due("in the last line", y.line(1, 5), 100);
        CHECK.due("a last word of 3 characters", Check.with(15, 0, "aa iii aa iii").line(0, 5), 100);
        CHECK.due("with badness, too", Check.with(18, 0, "iii aa iii aa").line(0, 5), 110 * 110 + 100);
    }
}
