/** Promises 10, 11, 19 and 20: layBest, takeSecond, second and worst. */
public final class LayoutTest {
    private static final Check CHECK = new Check();
    private static final int UNKNOWN = RiverJustifier.UNKNOWN;
    private static final int BAD_VALUE = RiverJustifier.BAD_VALUE;
    private static final int NONE = RiverJustifier.NONE;
    private static final int MIN = Integer.MIN_VALUE;
    private static final int MAX = Integer.MAX_VALUE;

    private LayoutTest() {
    }

    public static void main(String[] args) {
        possibleLines();
        noLayout();
        tieOfLayouts();
        seconds();
        tieOfSeconds();
        shortWords();
        worstLines();
        CHECK.end();
    }

    private static void possibleLines() {
        RiverJustifier x = Check.sixes(4, 18, 2, 3, 6);
        CHECK.dueRow("the greatest stretch", Check.breaks(x), 1, 3);
        CHECK.due("its demerits", x.count(2), 110 * 110 + 100);
        x.setMeasure(19);
        CHECK.due("one more is too much", x.count(1), 0);
        x.setMeasure(14);
        CHECK.dueRow("the greatest shrink, in the last line, too", Check.breaks(x), 1, 3);
        CHECK.due("its demerits", x.count(2), 2 * 110 * 110);
        x.setMeasure(13);
        CHECK.due("one less is too little", x.count(1), 0);
        x.setMeasure(33);
        CHECK.dueRow("all fits", Check.breaks(x), 3);
        x.setMeasure(200);
        CHECK.dueRow("the last line may be short", Check.breaks(x), 3);
        CHECK.due("without badness", x.line(0, 4), 0);
        RiverJustifier single = Check.with(10, 0, "aaa");
        CHECK.due("by 1 only, without a space that stretches", single.count(1), 1);
        CHECK.due("its demerits", single.count(2), 100);
        RiverJustifier y = Check.with(12, 50, "iiiiii iiiiii ii");
        CHECK.dueRow("lines of one word need the exact width", Check.breaks(y), 0, 1, 2);
        y.setMeasure(13);
        CHECK.due("otherwise they are not possible", y.count(1), 0);
    }

    private static void noLayout() {
        RiverJustifier x = Check.sixes(4, 13, 2, 3, 6);
        CHECK.due("layBest()", x.layBest(), NONE);
        CHECK.due("takeSecond(0)", x.takeSecond(0), UNKNOWN);
        CHECK.due("second(0, 0)", x.second(0, 0), UNKNOWN);
        CHECK.due("worst(0)", x.worst(0), NONE);
        CHECK.due("worst(-1)", x.worst(-1), BAD_VALUE);
        CHECK.due("breakRivers()", x.breakRivers(), 0);
        CHECK.due("begin(0)", x.begin(0), NONE);
        CHECK.due("word(0, 3)", x.word(0, 3), NONE);
        CHECK.due("word(0, 0)", x.word(0, 0), 6);
        CHECK.due("line(0, 0)", x.line(0, 0), UNKNOWN);
        CHECK.due("space(0, 0, 0)", x.space(0, 0, 0), UNKNOWN);
        CHECK.due("river(0, 0)", x.river(0, 0), UNKNOWN);
        CHECK.due("setMeasure(14)", x.setMeasure(14), 13);
        CHECK.due("layBest()", x.layBest(), 2);
    }

    private static void tieOfLayouts() {
        // Three words in a line (D = -4 of 4) are as bad as two (D = 5 of 5).
        RiverJustifier x = Check.sixes(4, 20, 1, 3, 8);
        CHECK.due("three and one, or two and two", x.count(2), 12200);
        CHECK.dueRow("more words come first", Check.breaks(x), 2, 3);
        CHECK.due("layBest()", x.layBest(), 2);
        x = Check.sixes(7, 20, 1, 3, 8);
        CHECK.due("3 3 1, 3 2 2 or 2 3 2", x.count(2), 24300);
        CHECK.dueRow("more words come first, and then again", Check.breaks(x), 2, 5, 6);
    }

    private static void seconds() {
        RiverJustifier x = Check.sixes(6, 20, 1, 3, 8);
        CHECK.dueRow("best", Check.breaks(x), 2, 5);
        CHECK.due("its demerits", x.count(2), 24200);
        CHECK.due("second of the first line", x.second(0, 0), 1);
        CHECK.due("its demerits", x.second(0, 1), 24300);
        CHECK.due("second of the last line", x.second(1, 0), 4);
        CHECK.due("its demerits", x.second(1, 1), 24300);
        CHECK.due("take it", x.takeSecond(0), 3);
        CHECK.dueRow("what is behind it is best, and its first line long", Check.breaks(x), 1, 4, 5);
        CHECK.due("its demerits", x.count(2), 24300);
        CHECK.due("those of the best layout stay", x.count(3), 24200);
        CHECK.due("now the best one is second", x.second(0, 0), 2);
        CHECK.due("its demerits", x.second(0, 1), 24200);
        CHECK.due("second behind it", x.second(1, 0), 3);
        CHECK.due("with the demerits of the line before", x.second(1, 1), 24300);
        CHECK.due("the last line has none", x.second(2, 0), NONE);
        CHECK.due("nor its demerits", x.second(2, 1), NONE);
        CHECK.due("so it cannot be taken", x.takeSecond(2), NONE);
        CHECK.due("take one behind it", x.takeSecond(1), 3);
        CHECK.dueRow("the line before stays", Check.breaks(x), 1, 3, 5);
        for (int bad : new int[] {-1, 3, MIN, MAX}) {
            CHECK.due("no such line", x.takeSecond(bad), UNKNOWN);
            CHECK.due("no such line", x.second(bad, 0), UNKNOWN);
            CHECK.due("the line is looked at first", x.second(bad, 2), UNKNOWN);
        }
        for (int bad : new int[] {-1, 2, MIN, MAX}) {
            CHECK.due("no such property", x.second(0, bad), BAD_VALUE);
            CHECK.due("looked at before there is none", x.second(2, bad), BAD_VALUE);
        }
        CHECK.dueRow("telling and errors change nothing", Check.breaks(x), 1, 3, 5);
        CHECK.due("layBest()", x.layBest(), 2);
        CHECK.dueRow("best again", Check.breaks(x), 2, 5);
        RiverJustifier y = Check.with(60, 50, "iii");
        CHECK.due("a single word", y.takeSecond(0), NONE);
    }

    private static void tieOfSeconds() {
        // Three words: D = 1 of 22, badness 0; four: D = -9 of 9; two: D = 11 of 11.
        RiverJustifier x = Check.sixes(5, 27, 1, 4, 15);
        CHECK.dueRow("best", Check.breaks(x), 2, 4);
        CHECK.due("its demerits", x.count(2), 200);
        CHECK.due("four and one, or two and three", x.second(0, 1), 12200);
        CHECK.due("more words in the line", x.second(0, 0), 3);
        CHECK.due("take it", x.takeSecond(0), 2);
        CHECK.dueRow("as told", Check.breaks(x), 3, 4);
    }

    private static void shortWords() {
        // A line of two words has the measure exactly; its last word has two characters.
        RiverJustifier x = Check.with(15, 0, "aaa aa aaa a, aa aa aaaa");
        x.setMeasure(18);
        CHECK.dueRow("best", Check.breaks(x), 1, 3, 5, 6);
        CHECK.due("a short last word", x.line(0, 5), 100 + 100);
        CHECK.due("D of the second line", x.line(1, 3), 2);
        CHECK.due("badness of the second line", x.line(1, 4), 100 * 4 / 9);
        CHECK.due("two characters with a sign are short", x.line(1, 5), 54 * 54 + 100);
        CHECK.due("not in the last line", x.line(3, 5), 100);
        RiverJustifier y = Check.with(18, 0, "aaa iii, aa");
        CHECK.due("three characters and more are long enough", y.line(0, 5), 110 * 110);
        RiverJustifier z = Check.with(200, 0, "aa a");
        CHECK.due("nor in a last line that is the only one", z.count(2), 100);
    }

    private static void worstLines() {
        RiverJustifier x = Check.sixes(6, 20, 1, 3, 8);
        CHECK.due("two lines are as bad", x.worst(0), 0);
        CHECK.due("the lower number comes first", x.worst(1), 1);
        CHECK.due("there are no more", x.worst(2), NONE);
        RiverJustifier y = Check.with(20, 0, "iiiiiiiiii iii iii iii iii");
        y.setSpace(0, 1, 3, 8);
        CHECK.dueRow("best", Check.breaks(y), 0, 3, 4);
        CHECK.due("the worst", y.worst(0), 1);
        CHECK.due("the next one", y.worst(1), 0);
        CHECK.due("as good", y.worst(2), 2);
        CHECK.due("there are no more", y.worst(3), NONE);
        CHECK.due("there are no more", y.worst(MAX), NONE);
        CHECK.due("no such rank", y.worst(-1), BAD_VALUE);
        CHECK.due("no such rank", y.worst(MIN), BAD_VALUE);
        // Demerits do not count: a short word makes the first line dearer, not worse.
        RiverJustifier z = Check.with(18, 0, "aaa aa aaa iii, aa");
        CHECK.dueRow("two lines, the second one worse", Check.breaks(z), 1, 3, 4);
        CHECK.due("the worst", z.worst(0), 1);
    }
}
