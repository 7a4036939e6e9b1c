import java.io.IOException;

/** One test for each sentence of LAYOUT and RIVERS that names a boundary case. */
public final class LayoutEdgesTest {
    private static final Check CHECK = new Check();
    private static final int UNKNOWN = RiverJustifier.UNKNOWN;
    private static final int BAD_VALUE = RiverJustifier.BAD_VALUE;
    private static final int NONE = RiverJustifier.NONE;

    private LayoutEdgesTest() {
    }

    public static void main(String[] args) throws IOException {
        Document document = new Document(CHECK);
        layout(document);
        rivers(document);
        breakingUp(document);
        document.end("LAYOUT", "RIVERS");
        CHECK.end();
    }

    private static void layout(Document document) {
        document.section("LAYOUT");
        document.test("A layout shares out all words, in their order, among possible lines, numbered from 0.",
            LayoutEdgesTest::allWords);
        document.test("The best layout has the least sum of demerits; of several, "
            + "it is the one whose first line that differs has more words.", LayoutEdgesTest::bestOfSeveral);
        document.test("Whenever the paragraph or a setting (the tolerance, too) changes, "
            + "also if a call sets what was set already, the layout becomes the best one.",
            LayoutEdgesTest::bestAfterChanges);
        document.test("There is none if there are no words, ", LayoutEdgesTest::noWords);
        document.test("or if there is no way to make possible lines; then there are no lines, spaces and rivers.",
            LayoutEdgesTest::noWay);
        document.test("The second choice of a line of the layout is another number of words in this line "
            + "(at least 1) ", LayoutEdgesTest::anotherNumber);
        document.test("with the lines before as they are, ", LayoutEdgesTest::linesBefore);
        document.test("and the words behind it in the best way (of several as in the best layout): ",
            LayoutEdgesTest::wordsBehind);
        document.test("the one with the least sum of demerits of all lines (those before it, too), ",
            LayoutEdgesTest::leastSum);
        document.test("of several the one with more words in this line.", LayoutEdgesTest::moreWords);
        document.test("The last line can have one, too.", LayoutEdgesTest::secondOfLastLine);
        document.test("There is none if there is no other way.", LayoutEdgesTest::noOtherWay);
    }

    private static void allWords() {
        RiverJustifier x = Check.sixes(7, 20, 1, 3, 8);
        int next = 0;
        for (int line = 0; line < x.count(1); line++) {
            CHECK.due("first word of line " + line, x.line(line, 0), next);
            next = x.line(line, 1) + 1;
        }
        CHECK.due("all words are in lines", next, 7);
        CHECK.due("a line before the first", x.line(-1, 0), UNKNOWN);
        CHECK.due("a line behind the last", x.line(x.count(1), 0), UNKNOWN);
        CHECK.due("one word is one line", Check.sixes(1, 20, 1, 3, 8).count(1), 1);
        // Words of width 10 and 2 characters.
        RiverJustifier most = Check.with(10, 0, "MM ".repeat(40));
        CHECK.due("the most lines", most.count(1), 40);
        CHECK.due("the last one", most.line(39, 0), 39);
        CHECK.due("no more", most.line(40, 0), UNKNOWN);
        CHECK.due("demerits of the most lines", most.count(2), 39 * 200 + 100);
    }

    private static void bestOfSeveral() {
        // Three words of 6 (D is -4, the shrink 4) are as bad as two (D is 5, the stretch 5).
        RiverJustifier x = Check.sixes(4, 20, 1, 3, 8);
        CHECK.due("3 and 1, or 2 and 2", x.count(2), 12200);
        CHECK.dueRow("more words in the first line", Check.breaks(x), 2, 3);
        RiverJustifier y = Check.sixes(7, 20, 1, 3, 8);
        CHECK.due("3 3 1, 3 2 2 or 2 3 2", y.count(2), 24300);
        CHECK.dueRow("more words in the first line that differs", Check.breaks(y), 2, 5, 6);
        // Less demerits count before more words: four would do, too.
        CHECK.dueRow("3 and 2, not 4 and 1", Check.breaks(Check.sixes(5, 27, 1, 4, 15)), 2, 4);
        // Two words of 6 have 3721 demerits in a line, and three have 12100.
        CHECK.dueRow("2 2 2 1, not 3 3 1", Check.breaks(Check.sixes(7, 20, 1, 3, 10)), 1, 3, 5, 6);
    }

    private interface Change {
        void on(RiverJustifier x);
    }

    private static void bestAfterChanges() {
        RiverJustifier x = Check.sixes(4, 20, 1, 3, 8);
        x.clearText();
        dueBest(x, "setMeasure(20)", y -> y.setMeasure(20));
        dueBest(x, "setHang(50)", y -> y.setHang(50));
        dueBest(x, "setHang(0)", y -> y.setHang(0));
        dueBest(x, "setTolerance(2)", y -> y.setTolerance(2));
        dueBest(x, "setTolerance(3)", y -> y.setTolerance(3));
        dueBest(x, "setSpace(0, 1, 3, 8)", y -> y.setSpace(0, 1, 3, 8));
        dueBest(x, "setSpace(1, 2, 4, 8)", y -> y.setSpace(1, 2, 4, 8));
        dueBest(x, "setSpace(2, 1, 1, 1)", y -> y.setSpace(2, 1, 1, 1));
        dueBest(x, "measure 20", y -> Check.command(y, "measure 20"));
        dueBest(x, "hang 0", y -> Check.command(y, "hang 0"));
        dueBest(x, "hang 1", y -> Check.command(y, "hang 1"));
        dueBest(x, "river 3", y -> Check.command(y, "river 3"));
        dueBest(x, "river 20", y -> Check.command(y, "river 20"));
        dueBest(x, "space word 1 3 8", y -> Check.command(y, "space word 1 3 8"));
        dueBest(x, "space clause 2 4 8", y -> Check.command(y, "space clause 2 4 8"));
        dueBest(x, "the same paragraph", y -> Check.read(y, "iii iii iii iii"));
        dueBest(x, "another paragraph", y -> Check.read(y, "jjj jjj jjj jjj"));
        RiverJustifier shorter = Check.columns(15);
        Check.read(shorter, "iii iii iii iii");
        CHECK.dueRow("nothing of a longer paragraph is left", Check.state(shorter), Check.state(Check.columns(4)));
        shorter.setMeasure(10);
        shorter.setMeasure(24);
        CHECK.dueRow("nor of a time without a layout", Check.state(shorter), Check.state(Check.columns(4)));
    }

    private static void dueBest(RiverJustifier x, String call, Change change) {
        x.takeSecond(0);
        CHECK.dueRow("before " + call, Check.breaks(x), 1, 3);
        change.on(x);
        CHECK.dueRow("after " + call, Check.breaks(x), 2, 3);
    }

    private static void dueNothing(RiverJustifier x) {
        for (int what = 1; what < 7; what++) {
            CHECK.due("count(" + what + ")", x.count(what), 0);
        }
        CHECK.due("line(0, 0)", x.line(0, 0), UNKNOWN);
        CHECK.due("space(0, 0, 0)", x.space(0, 0, 0), UNKNOWN);
        CHECK.due("second(0, 0)", x.second(0, 0), UNKNOWN);
        CHECK.due("takeSecond(0)", x.takeSecond(0), UNKNOWN);
        CHECK.due("river(0, 0)", x.river(0, 0), UNKNOWN);
        CHECK.due("worst(0)", x.worst(0), NONE);
        CHECK.due("layBest()", x.layBest(), NONE);
        CHECK.due("breakRivers()", x.breakRivers(), 0);
    }

    private static void noWords() {
        dueNothing(new RiverJustifier());
        RiverJustifier x = Check.columns(15);
        CHECK.due("rivers before", x.count(4), 2);
        Check.read(x, "   ");
        dueNothing(x);
        CHECK.due("begin(0)", x.begin(0), UNKNOWN);
        Check.read(x, "i");
        CHECK.due("one word", x.count(1), 1);
    }

    private static void noWay() {
        RiverJustifier x = Check.columns(15);
        CHECK.due("rivers before", x.count(4), 2);
        x.setMeasure(12);
        dueNothing(x);
        CHECK.due("begin(0)", x.begin(0), NONE);
        CHECK.due("word(0, 3)", x.word(0, 3), NONE);
        x.setMeasure(24);
        CHECK.due("there is a way again", x.count(1), 5);
        // All lines but one can be made.
        dueNothing(Check.with(12, 0, "iiiiii iiiiii iiiii iiiiii"));
        dueNothing(Check.with(12, 0, "iiiiii iiiiii iiiiiii"));
        dueNothing(Check.with(12, 0, "iiiii iiiiii iiiiii"));
    }

    private static void anotherNumber() {
        // Of three lines of two words, the first one can only have three instead.
        RiverJustifier x = Check.sixes(7, 20, 1, 3, 10);
        CHECK.dueRow("best", Check.breaks(x), 1, 3, 5, 6);
        CHECK.due("three words instead of two", x.second(0, 0), 2);
        x.takeSecond(0);
        CHECK.due("two words instead of three", x.second(0, 0), 1);
        RiverJustifier y = Check.with(12, 0, "iiiiii iiiiii ii");
        for (int line = 0; line < 3; line++) {
            CHECK.due("one word, and no other number", y.second(line, 0), NONE);
            CHECK.due("so it cannot be taken", y.takeSecond(line), NONE);
        }
    }

    private static void linesBefore() {
        RiverJustifier x = Check.sixes(6, 20, 1, 3, 8);
        CHECK.dueRow("best", Check.breaks(x), 2, 5);
        x.takeSecond(0);
        CHECK.dueRow("the first line has no line before", Check.breaks(x), 1, 4, 5);
        CHECK.due("three words instead of two in the second line", x.second(1, 0), 3);
        CHECK.due("take it", x.takeSecond(1), 3);
        CHECK.dueRow("the first line is not best, but stays", Check.breaks(x), 1, 3, 5);
    }

    private static void wordsBehind() {
        RiverJustifier x = Check.sixes(6, 20, 1, 3, 8);
        CHECK.due("take the second of the first line", x.takeSecond(0), 3);
        CHECK.dueRow("2 3 1, not 2 2 2 with the same sum", Check.breaks(x), 1, 4, 5);
        CHECK.due("demerits", x.count(2), 24300);
        x = Check.sixes(6, 20, 1, 3, 8);
        x.takeSecond(0);
        x.takeSecond(1);
        CHECK.dueRow("2 2 2 now", Check.breaks(x), 1, 3, 5);
        x.takeSecond(0);
        CHECK.dueRow("3 3: what was behind does not stay", Check.breaks(x), 2, 5);
        // Two words would do in the first line, but then there is no way behind it.
        RiverJustifier y = Check.with(24, 0, "iii iii iii " + "i".repeat(12));
        y.setSpace(0, 1, 3, 12);
        CHECK.dueRow("best", Check.breaks(y), 2, 3);
        CHECK.due("no way behind", y.second(0, 0), NONE);
    }

    private static void leastSum() {
        // Four words are 12200 demerits in all, two 94 * 94 + 100.
        RiverJustifier x = Check.sixes(5, 27, 1, 4, 16);
        CHECK.dueRow("best", Check.breaks(x), 2, 4);
        CHECK.due("two words are less bad than four", x.second(0, 0), 1);
        CHECK.due("their sum", x.second(0, 1), 94 * 94 + 100);
        RiverJustifier y = Check.sixes(6, 20, 1, 3, 8);
        CHECK.due("the line before counts, too", y.second(1, 1), 12100 + 12100 + 100);
        CHECK.due("all lines before count", Check.sixes(9, 20, 1, 3, 8).second(2, 1), 3 * 12100 + 100);
        y.takeSecond(0);
        CHECK.due("the second choice can be the best", y.second(0, 1), 24200);
    }

    private static void moreWords() {
        // Three words of 6: D is 1, the stretch 22; four: -9 of 9; two: 11 of 11.
        RiverJustifier x = Check.sixes(5, 27, 1, 4, 15);
        CHECK.due("four and one, or two and three", x.second(0, 1), 12200);
        CHECK.due("more words", x.second(0, 0), 3);
        CHECK.due("take it", x.takeSecond(0), 2);
        CHECK.dueRow("as told", Check.breaks(x), 3, 4);
    }

    private static void secondOfLastLine() {
        RiverJustifier x = Check.sixes(3, 20, 1, 3, 8);
        CHECK.due("a layout of one line", x.count(1), 1);
        CHECK.due("its second choice", x.second(0, 0), 1);
        CHECK.due("is not a last line any more", x.second(0, 1), 12100 + 100);
        CHECK.due("take it", x.takeSecond(0), 2);
        CHECK.due("a second choice can make the last line", x.second(0, 0), 2);
        CHECK.due("take it", x.takeSecond(0), 1);
        RiverJustifier y = Check.sixes(6, 20, 1, 3, 8);
        CHECK.due("the last of two lines", y.second(1, 0), 4);
        CHECK.due("take it", y.takeSecond(1), 3);
    }

    private static void noOtherWay() {
        RiverJustifier x = Check.sixes(4, 15, 2, 3, 6);
        CHECK.dueRow("best", Check.breaks(x), 1, 3);
        for (int line = 0; line < 2; line++) {
            CHECK.due("second", x.second(line, 0), NONE);
            CHECK.due("its demerits", x.second(line, 1), NONE);
            CHECK.due("takeSecond", x.takeSecond(line), NONE);
        }
        CHECK.dueRow("as before", Check.breaks(x), 1, 3);
        CHECK.due("a single word", Check.with(60, 50, "iii").second(0, 0), NONE);
    }

    private static void rivers(Document document) {
        document.section("RIVERS");
        document.test("In a line, the first word begins at minus what hangs on the left, and all else follows.",
            LayoutEdgesTest::beginnings);
        document.test("The middle of a space is 2 times its beginning plus its width.", LayoutEdgesTest::middles);
        document.test("Two spaces of neighbouring lines are near if their middles differ by at most "
            + "twice the tolerance ", LayoutEdgesTest::near);
        document.test("(0 to 20, at first 2).", LayoutEdgesTest::tolerances);
        document.test("The length of a space is 1 if no space of the line above is near, otherwise 1 more than "
            + "the greatest length of a near space of the line above.", LayoutEdgesTest::lengths);
        document.test("A space ends a river if its length is at least 3 and no space of the line below is near.",
            LayoutEdgesTest::ends);
        document.test("The rivers are numbered from 0, by the lines in which they end, "
            + "and from left to right in a line.", LayoutEdgesTest::numbers);
        document.test("A river goes upwards from its end, always to the near space of the line above "
            + "with the greatest length, of several the leftmost one.", LayoutEdgesTest::upwards);
        document.test("The length of a river is that of the space that ends it.", LayoutEdgesTest::riverLengths);
        document.test("The strength of all rivers is the sum of their lengths, each minus 2.",
            LayoutEdgesTest::strengths);
    }

    private static void beginnings() {
        RiverJustifier x = Check.with(15, 100, "iii iii (iii iii 'iii iii");
        int[] begins = {0, 9, -2, 9, -1, 9};
        // Widths 6 + 6, 8 + 6 - 2 and 7 + 6 - 1; only in the last line the space stays 3.
        for (int word = 0; word < begins.length; word++) {
            CHECK.due("begin(" + word + ")", x.begin(word), begins[word]);
        }
        x.setHang(0);
        CHECK.due("nothing hangs", x.layBest(), NONE);
        x.setMeasure(17);
        CHECK.dueRow("one more line", Check.breaks(x), 1, 3, 5);
        CHECK.due("nothing hangs", x.begin(2), 0);
    }

    /**
     * Two lines of two words; the middle of the first space is 4 for each i that the first word is longer
     * than the third one, plus more, to the right of that of the second space.
     */
    private static RiverJustifier twoLines(int first, int third, int more, int tolerance) {
        RiverJustifier x = Check.with(2 * first + 33 + more, 0,
            "i".repeat(first) + " " + "i".repeat(15) + " " + "i".repeat(third) + " i");
        x.setTolerance(tolerance);
        CHECK.dueRow("two lines", Check.breaks(x), 1, 3);
        return x;
    }

    private static void dueNear(boolean near, int first, int third, int more, int tolerance) {
        RiverJustifier x = twoLines(first, third, more, tolerance);
        String call = "near by " + (4 * (first - third) + more) + " with tolerance " + tolerance;
        CHECK.due(call, x.space(1, 0, 3), near ? 2 : 1);
    }

    private static void middles() {
        // Spaces that begin at the same place, and are 3, 4, 5, 6 and 2 wide in the first line.
        dueNear(true, 10, 10, 0, 0);
        dueNear(false, 10, 10, 1, 0);
        dueNear(true, 10, 10, 2, 1);
        dueNear(false, 10, 10, 3, 1);
        dueNear(true, 10, 10, 3, 2);
        dueNear(false, 10, 10, -1, 0);
        dueNear(true, 10, 10, -1, 1);
        // A word that begins over the edge by 2 moves the middle by 4.
        RiverJustifier x = Check.with(35, 100, "(iiiiii iiiiiiiii iiiiii i");
        CHECK.dueRow("two lines", Check.breaks(x), 1, 3);
        CHECK.due("beginning above", x.space(0, 0, 1), 12);
        CHECK.due("beginning below", x.space(1, 0, 1), 12);
        x.setTolerance(1);
        CHECK.due("5 wide above, 3 below", x.space(1, 0, 3), 2);
        x.setTolerance(0);
        CHECK.due("5 wide above, 3 below", x.space(1, 0, 3), 1);
    }

    private static void near() {
        dueNear(true, 10, 9, 0, 2);
        dueNear(false, 10, 9, 1, 2);
        dueNear(true, 9, 10, 0, 2);
        dueNear(false, 9, 10, -1, 2);
        dueNear(true, 10, 10, 0, 0);
        dueNear(false, 10, 10, 1, 0);
        dueNear(true, 20, 10, 0, 20);
        dueNear(false, 20, 10, 1, 20);
        dueNear(true, 10, 20, 0, 20);
        dueNear(false, 10, 20, -1, 20);
        // Spaces of one line, and of lines with a line without a space between them.
        RiverJustifier x = Check.with(60, 0, "i i i");
        x.setTolerance(20);
        CHECK.due("a line alone", x.count(5), 1);
        String ten = "i".repeat(10);
        RiverJustifier y = Check.with(43, 0, ten + " " + ten + " " + ten + ten + "a " + ten + " i");
        y.setTolerance(20);
        CHECK.dueRow("three lines", Check.breaks(y), 1, 2, 4);
        CHECK.due("lines that are no neighbours", y.space(2, 0, 3), 1);
        // The end of a line is no space, also if there was one in the layout before.
        RiverJustifier z = Check.with(200, 0, ten + " " + ten + " " + "i".repeat(18) + " i");
        z.setTolerance(10);
        CHECK.due("a space behind the second word", z.space(0, 1, 3), 1);
        z.setMeasure(43);
        CHECK.dueRow("two lines", Check.breaks(z), 1, 3);
        CHECK.due("below the end of a line", z.space(1, 0, 3), 1);
    }

    private static void tolerances() {
        RiverJustifier x = new RiverJustifier();
        CHECK.due("at first", x.count(9), 2);
        CHECK.due("the least", x.setTolerance(0), 2);
        CHECK.due("the greatest", x.setTolerance(20), 0);
        CHECK.due("too small", x.setTolerance(-1), BAD_VALUE);
        CHECK.due("too large", x.setTolerance(21), BAD_VALUE);
        CHECK.due("far too small", x.setTolerance(Integer.MIN_VALUE), BAD_VALUE);
        CHECK.due("far too large", x.setTolerance(Integer.MAX_VALUE), BAD_VALUE);
        CHECK.due("then", x.count(9), 20);
        // Without a call that sets it.
        String text = "i".repeat(10) + " " + "i".repeat(15) + " " + "i".repeat(9) + " i";
        CHECK.due("near by 4", Check.with(53, 0, text).space(1, 0, 3), 2);
        CHECK.due("near by 5", Check.with(54, 0, text).space(1, 0, 3), 1);
    }

    /** Middles 33, then 15 and 33, then 23: the last space is near to 15 by 8, and to 33 by 10. */
    private static RiverJustifier fork(int tolerance) {
        RiverJustifier x = Check.with(24, 0, "aaaaa iii iii iii iii iiiii iiiia iii");
        x.setTolerance(tolerance);
        CHECK.dueRow("four lines", Check.breaks(x), 1, 4, 6, 7);
        return x;
    }

    private static void lengths() {
        RiverJustifier x = Check.columns(9);
        for (int line = 0; line < 3; line++) {
            CHECK.due("left in line " + line, x.space(line, 0, 3), line + 1);
            CHECK.due("right in line " + line, x.space(line, 1, 3), line + 1);
        }
        CHECK.due("none above is near", fork(5).space(1, 0, 3), 1);
        CHECK.due("one above is near", fork(5).space(1, 1, 3), 2);
        CHECK.due("two of lengths 1 and 2 above are near", fork(5).space(2, 0, 3), 3);
        CHECK.due("only that of length 1 above is near", fork(4).space(2, 0, 3), 2);
        CHECK.due("none of two above is near", fork(3).space(2, 0, 3), 1);
        RiverJustifier longest = Check.with(10, 0, "m ".repeat(60));
        CHECK.due("30 lines of two words", longest.count(1), 30);
        CHECK.due("the longest", longest.space(29, 0, 3), 30);
    }

    private static void ends() {
        CHECK.due("length 2, no line below", Check.columns(6).count(4), 0);
        CHECK.due("length 3, no line below", Check.columns(9).count(4), 2);
        CHECK.due("length 3, a line without a space below", Check.columns(10).count(4), 2);
        RiverJustifier x = Check.columns(11);
        CHECK.due("length 3, only one has a near space below", x.count(4), 2);
        CHECK.due("so it ends here", x.river(0, 0), 201);
        CHECK.due("and that there", x.river(1, 0), 300);
        CHECK.due("length 3, near spaces below", Check.columns(12).count(4), 2);
        CHECK.due("so they end there", Check.columns(12).river(0, 0), 300);
        CHECK.due("lengths 2 and 3", fork(5).count(4), 1);
        CHECK.due("two lengths of 2", fork(4).count(4), 0);
        CHECK.due("no rivers without lines", new RiverJustifier().count(4), 0);
    }

    private static void numbers() {
        RiverJustifier x = Check.columns(14);
        CHECK.due("two rivers", x.count(4), 2);
        CHECK.due("the right one ends above", x.river(0, 0), 301);
        CHECK.due("the left one ends below", x.river(1, 0), 400);
        RiverJustifier y = Check.columns(15);
        CHECK.due("the left one of the last line", y.river(0, 0), 400);
        CHECK.due("the right one of the last line", y.river(1, 0), 401);
        CHECK.due("before the first", y.river(-1, 0), UNKNOWN);
        CHECK.due("behind the last", y.river(2, 0), UNKNOWN);
    }

    private static void dueRiver(RiverJustifier x, int river, int... want) {
        for (int step = 0; step < want.length; step++) {
            CHECK.due("river(" + river + ", " + step + ")", x.river(river, step), want[step]);
        }
        CHECK.due("river " + river + " is not longer", x.river(river, want.length), NONE);
    }

    private static void upwards() {
        dueRiver(Check.columns(9), 1, 201, 101, 1);
        // The middles of a line are 15 and 33; in this tolerance all of them are near.
        RiverJustifier x = Check.columns(9);
        x.setTolerance(9);
        dueRiver(x, 0, 200, 100, 0);
        dueRiver(x, 1, 201, 100, 0);
        x.setTolerance(8);
        dueRiver(x, 1, 201, 101, 1);
        dueRiver(fork(5), 0, 200, 101, 0);
    }

    private static void riverLengths() {
        RiverJustifier x = Check.columns(14);
        dueRiver(x, 0, 301, 201, 101, 1);
        CHECK.due("its end", x.space(3, 1, 3), 4);
        dueRiver(x, 1, 400, 300, 200, 100, 0);
        CHECK.due("its end", x.space(4, 0, 3), 5);
        RiverJustifier longest = Check.with(10, 0, "m ".repeat(60));
        CHECK.due("the longest river ends in", longest.river(0, 0), 2900);
        CHECK.due("and begins in", longest.river(0, 29), 0);
        CHECK.due("it is not longer", longest.river(0, 30), NONE);
    }

    private static void strengths() {
        CHECK.due("no words", new RiverJustifier().count(6), 0);
        CHECK.due("lengths of 2 are no rivers", Check.columns(6).count(6), 0);
        CHECK.due("3 and 3", Check.columns(9).count(6), 2);
        CHECK.due("3 and 4", Check.columns(11).count(6), 3);
        CHECK.due("5 and 5", Check.columns(15).count(6), 6);
        CHECK.due("30", Check.with(10, 0, "m ".repeat(60)).count(6), 28);
    }

    private static void breakingUp(Document document) {
        document.test("Breaking up rivers: of all lines that have a second choice, the one is found with which, "
            + "if it were taken, the strength would be least, ", LayoutEdgesTest::leastStrength);
        document.test("of several the one with the least sum of demerits, ", LayoutEdgesTest::leastDemerits);
        document.test("and then that with the lowest number.", LayoutEdgesTest::lowestNumber);
        document.test("If the strength would be less than it is now, the second choice is taken; ",
            LayoutEdgesTest::lessThanNow);
        document.test("this is repeated until nothing is taken, ", LayoutEdgesTest::untilNothing);
        document.test("at most 10 times.", LayoutEdgesTest::tenTimes);
    }

    private static void dueBroken(String text, int demerits, long... breaks) {
        RiverJustifier x = Check.with(24, 0, text);
        x.setSpace(0, 1, 3, 12);
        CHECK.due("breakRivers() of " + text, x.breakRivers(), 1);
        CHECK.due("strength of " + text, x.count(6), 0);
        CHECK.due("demerits of " + text, x.count(2), demerits);
        CHECK.dueRow("breaks of " + text, Check.breaks(x), breaks);
    }

    private static void leastStrength() {
        // The second choice of the last line costs 100 less, but leaves rivers of three lines.
        dueBroken("iii iii iii iii iii iii iii aa iii iii iii iii", 12200 + 400, 2, 4, 7, 10, 11);
        RiverJustifier x = Check.columns(15);
        CHECK.due("strength", x.count(6), 6);
        CHECK.due("one is enough", x.breakRivers(), 1);
        CHECK.dueRow("the one in the middle", Check.breaks(x), 2, 5, 7, 10, 13, 14);
        // Without second choices there is nothing to find.
        RiverJustifier y = Check.with(24, 0, "iii ".repeat(15));
        CHECK.due("strength", y.count(6), 6);
        CHECK.due("no second choices", y.breakRivers(), 0);
        CHECK.due("strength", y.count(6), 6);
    }

    private static void leastDemerits() {
        // Two words in any of three lines break both rivers; a short word at its end costs 100.
        dueBroken("iii aa iii iii iii iii iii iii iii", 12100 + 300, 2, 4, 7, 8);
        dueBroken("iii aa iii iii aa iii iii iii iii", 12100 + 300, 2, 5, 7, 8);
    }

    private static void lowestNumber() {
        dueBroken("iii iii iii iii iii iii iii iii iii", 12100 + 300, 1, 4, 7, 8);
        dueBroken("iii iii iii iii iii iii iii aa iii", 12200 + 300, 1, 4, 7, 8);
    }

    private static void lessThanNow() {
        // A river of three lines; the second choices of the two first lines leave one, that of the third two.
        RiverJustifier x = Check.sixes(7, 20, 1, 3, 10);
        x.setTolerance(4);
        CHECK.dueRow("best", Check.breaks(x), 1, 3, 5, 6);
        CHECK.due("strength", x.count(6), 1);
        CHECK.due("no less with any second choice", x.breakRivers(), 0);
        CHECK.dueRow("so nothing is taken", Check.breaks(x), 1, 3, 5, 6);
        x.takeSecond(0);
        CHECK.due("strength with that of the first line", x.count(6), 1);
        RiverJustifier y = Check.columns(6);
        CHECK.due("no strength", y.count(6), 0);
        CHECK.due("cannot be less", y.breakRivers(), 0);
        CHECK.dueRow("so nothing is taken", Check.breaks(y), 2, 5);
        RiverJustifier z = Check.columns(9);
        CHECK.due("strength", z.count(6), 2);
        CHECK.due("can be less", z.breakRivers(), 1);
    }

    private static void untilNothing() {
        RiverJustifier x = Check.columns(24);
        CHECK.due("strength", x.count(6), 12);
        CHECK.due("from 12 to 6, 1 and 0", x.breakRivers(), 3);
        CHECK.due("strength", x.count(6), 0);
        CHECK.dueRow("breaks", Check.breaks(x), 2, 5, 7, 10, 13, 15, 17, 20, 23);
        CHECK.due("nothing is left", x.breakRivers(), 0);
    }

    private static void tenTimes() {
        RiverJustifier x = Check.with(15, 50, "i ".repeat(60));
        x.setTolerance(3);
        x.setSpace(0, 1, 4, 17);
        CHECK.due("no more than ten", x.breakRivers(), 10);
        CHECK.due("strength", x.count(6), 21);
        CHECK.due("two were left", x.breakRivers(), 2);
        CHECK.due("strength", x.count(6), 18);
        CHECK.due("nothing is left", x.breakRivers(), 0);
    }
}
