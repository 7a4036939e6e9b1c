/** Promises 1 to 4: a new object, type, clearText, readParagraph. */
public final class TextTest {
    private static final Check CHECK = new Check();
    private static final int UNKNOWN = RiverJustifier.UNKNOWN;
    private static final int NONE = RiverJustifier.NONE;

    private TextTest() {
    }

    public static void main(String[] args) {
        newObject();
        typing();
        clearing();
        reading();
        everyCharacter();
        faults();
        manyWords();
        CHECK.end();
    }

    private static void newObject() {
        RiverJustifier x = new RiverJustifier();
        int[] counts = {0, 0, 0, 0, 0, 0, 0, 60, 50, 2};
        for (int what = 0; what < counts.length; what++) {
            CHECK.due("count(" + what + ") of a new object", x.count(what), counts[what]);
        }
        int[][] widths = {{2, 3, 6}, {2, 4, 8}, {3, 5, 10}};
        for (int kind = 0; kind < 3; kind++) {
            for (int what = 0; what < 3; what++) {
                CHECK.due("first width", x.spaceWidth(kind, what), widths[kind][what]);
            }
        }
        CHECK.due("no word", x.word(0, 0), UNKNOWN);
        CHECK.due("no beginning", x.begin(0), UNKNOWN);
        CHECK.due("no line", x.line(0, 0), UNKNOWN);
        CHECK.due("no space", x.space(0, 0, 0), UNKNOWN);
        CHECK.due("no second", x.second(0, 0), UNKNOWN);
        CHECK.due("no river", x.river(0, 0), UNKNOWN);
        CHECK.due("no worst", x.worst(0), NONE);
        CHECK.due("no second to take", x.takeSecond(0), UNKNOWN);
        CHECK.due("no layout", x.layBest(), NONE);
        CHECK.due("no rivers to break", x.breakRivers(), 0);
        CHECK.due("an empty text", x.clearText(), 0);
        CHECK.due("an empty paragraph", x.readParagraph(), 0);
        CHECK.due("an empty command", x.command(), -100);
        Check.read(x, "one two");
        CHECK.due("another object is still empty", new RiverJustifier().count(0), 0);
    }

    private static void typing() {
        RiverJustifier x = new RiverJustifier();
        char[] any = {0, 'a', ' ', '\n', 127, 255, 0x20ac, 0xd800, 0xffff};
        for (int i = 0; i < 120; i++) {
            CHECK.due("type", x.type(any[i % any.length]), i + 1);
        }
        CHECK.due("type into a full text", x.type('a'), RiverJustifier.FULL);
        CHECK.due("type into a full text again", x.type(' '), RiverJustifier.FULL);
        CHECK.due("the length", x.clearText(), 120);
        CHECK.due("type after clearing", x.type('a'), 1);
        Check.typeAll(x, "a".repeat(120));
        x.type('#');
        CHECK.due("what did not fit is not there", x.readParagraph(), 1);
        CHECK.due("all 120 are there", x.word(0, 1), 120);
        CHECK.due("as wide as 120 letters", x.word(0, 0), 360);
    }

    private static void clearing() {
        RiverJustifier x = new RiverJustifier();
        Check.read(x, "ab cd");
        CHECK.due("clearText", x.clearText(), 5);
        CHECK.due("clearText again", x.clearText(), 0);
        CHECK.due("the paragraph stays", x.count(0), 2);
        CHECK.due("and its layout", x.count(1), 1);
        CHECK.due("nothing is left of the text", x.type('x'), 1);
        CHECK.due("only the new character", x.readParagraph(), 1);
        CHECK.due("its size", x.word(0, 1), 1);
    }

    private static void reading() {
        RiverJustifier x = new RiverJustifier();
        CHECK.due("words", Check.read(x, "  ab,  cde   f. "), 3);
        CHECK.due("the text stays", x.readParagraph(), 3);
        CHECK.due("and can grow", x.type('!'), 17);
        CHECK.due("one word more", x.readParagraph(), 4);
        int[][] due = {{7, 3, 1}, {9, 3, 0}, {3, 2, 2}, {1, 1, 2}};
        for (int word = 0; word < 4; word++) {
            for (int what = 0; what < 3; what++) {
                CHECK.due("word(" + word + ", " + what + ")", x.word(word, what), due[word][what]);
            }
        }
        CHECK.due("only blanks", Check.read(x, "   "), 0);
        CHECK.due("then there are no words", x.count(0), 0);
        CHECK.due("and no lines", x.count(1), 0);
        CHECK.due("and no such word", x.word(0, 0), UNKNOWN);
    }

    private static int widthDue(char sign) {
        String[] byWidth = {".,;:!'", "fijlrtI?-\"()", "abcdeghknopqsuvxyz0123456789",
            "mwABCDEFGHJKLNOPQRSTUVXYZ", "MW"};
        for (int i = 0; i < byWidth.length; i++) {
            if (byWidth[i].indexOf(sign) >= 0) {
                return i + 1;
            }
        }
        return 0;
    }

    private static void everyCharacter() {
        int allowed = 0;
        for (int code = 0; code < 65536; code++) {
            char sign = (char) code;
            RiverJustifier x = new RiverJustifier();
            x.type(sign);
            int width = widthDue(sign);
            if (sign == ' ') {
                CHECK.due("a blank", x.readParagraph(), 0);
            } else if (width == 0) {
                CHECK.due("character " + code, x.readParagraph(), -100);
            } else {
                allowed++;
                CHECK.due("character " + code, x.readParagraph(), 1);
                CHECK.due("width of " + sign, x.word(0, 0), width);
                int kind = ".!?".indexOf(sign) >= 0 ? 2 : ",;:".indexOf(sign) >= 0 ? 1 : 0;
                CHECK.due("class behind " + sign, x.word(0, 2), kind);
                x.setHang(100);
                CHECK.due("left of " + sign, x.line(0, 6), "'\"(".indexOf(sign) >= 0 ? width : 0);
                CHECK.due("right of " + sign, x.line(0, 7), ".,;:!?-'\"".indexOf(sign) >= 0 ? width : 0);
            }
        }
        CHECK.due("allowed characters", allowed, 26 + 26 + 10 + 11);
    }

    private static void faults() {
        RiverJustifier x = Check.with(20, 50, "iii iii iii iii");
        x.setSpace(0, 1, 3, 8);
        x.takeSecond(0);
        CHECK.dueRow("the second choice", Check.breaks(x), 1, 3);
        CHECK.due("a fault", Check.read(x, "ab c#d#"), -104);
        CHECK.due("a fault at the end", Check.read(x, "ab\t"), -102);
        CHECK.due("a fault at the beginning", Check.read(x, "_ab"), -100);
        CHECK.due("a fault behind blanks", Check.read(x, "  \u00e9"), -102);
        CHECK.due("the text stays, too", x.clearText(), 3);
        Check.typeAll(x, "a".repeat(119) + "+");
        CHECK.due("a fault at the very end", x.readParagraph(), -219);
        CHECK.due("the paragraph is the old one", x.count(0), 4);
        CHECK.dueRow("in the layout that was taken", Check.breaks(x), 1, 3);
    }

    private static void manyWords() {
        RiverJustifier x = new RiverJustifier();
        x.setMeasure(10);
        CHECK.due("60 words", Check.read(x, "m ".repeat(60)), 60);
        CHECK.due("count(0)", x.count(0), 60);
        CHECK.due("the last word", x.word(59, 0), 4);
        CHECK.due("there are no more", x.word(60, 0), UNKNOWN);
        // Two words with a space of 3 are 11 wide, with one of 2 as wide as the measure.
        CHECK.due("30 lines", x.count(1), 30);
        CHECK.due("fewer words afterwards", Check.read(x, "it is"), 2);
        CHECK.due("no third one", x.word(2, 0), UNKNOWN);
        CHECK.due("the widths are new", x.word(0, 0), 4);
    }
}
