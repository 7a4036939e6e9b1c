/** Promises 12 and 21: breakRivers and river. */
public final class RiverTest {
    private static final Check CHECK = new Check();
    private static final int UNKNOWN = RiverJustifier.UNKNOWN;
    private static final int BAD_VALUE = RiverJustifier.BAD_VALUE;
    private static final int NONE = RiverJustifier.NONE;

    private RiverTest() {
    }

    public static void main(String[] args) {
        straightRivers();
        shortRivers();
        numbering();
        tolerance();
        meeting();
        wrongArguments();
        breaking();
        breakingAgain();
        sameStrength();
        tenTimesAtMost();
        nothingToBreak();
        CHECK.end();
    }

    private static void dueRiver(RiverJustifier x, int river, int... want) {
        for (int step = 0; step < want.length; step++) {
            CHECK.due("river(" + river + ", " + step + ")", x.river(river, step), want[step]);
        }
        CHECK.due("river " + river + " is not longer", x.river(river, want.length), NONE);
    }

    private static void dueRivers(RiverJustifier x, int rivers, int greatest, int strength) {
        CHECK.due("rivers", x.count(4), rivers);
        CHECK.due("the greatest length", x.count(5), greatest);
        CHECK.due("the strength", x.count(6), strength);
    }

    private static void straightRivers() {
        RiverJustifier x = Check.columns(15);
        dueRivers(x, 2, 5, 6);
        dueRiver(x, 0, 400, 300, 200, 100, 0);
        dueRiver(x, 1, 401, 301, 201, 101, 1);
        for (int line = 0; line < 5; line++) {
            CHECK.due("length of a space", x.space(line, 1, 3), line + 1);
        }
    }

    private static void shortRivers() {
        dueRivers(Check.columns(6), 0, 2, 0);
        dueRivers(Check.columns(9), 2, 3, 2);
        dueRivers(Check.columns(3), 0, 1, 0);
        dueRivers(Check.columns(1), 0, 0, 0);
    }

    private static void numbering() {
        RiverJustifier x = Check.columns(14);
        dueRivers(x, 2, 5, 5);
        // The right one ends a line above the left one.
        dueRiver(x, 0, 301, 201, 101, 1);
        dueRiver(x, 1, 400, 300, 200, 100, 0);
    }

    private static void tolerance() {
        // Middles of the two spaces of a line differ by 18; the single space of a line lies 9 from both.
        RiverJustifier x = Check.columns(9);
        x.setTolerance(8);
        dueRiver(x, 1, 201, 101, 1);
        x.setTolerance(9);
        dueRiver(x, 1, 201, 100, 0);
        x.setTolerance(0);
        dueRivers(x, 2, 3, 2);
        x.setTolerance(4);
        x.takeSecond(1);
        dueRivers(x, 0, 1, 0);
        x.setTolerance(5);
        x.takeSecond(1);
        // 3, 2, 3 and 1 words; 9 is at most 10, and all spaces meet in the middle one.
        dueRivers(x, 2, 3, 2);
        dueRiver(x, 0, 200, 100, 0);
        dueRiver(x, 1, 201, 100, 0);
    }

    private static void meeting() {
        // In this tolerance all spaces of neighbouring lines are near: the leftmost one is gone to.
        RiverJustifier x = Check.columns(12);
        x.setTolerance(9);
        CHECK.dueRow("four lines", Check.breaks(x), 2, 5, 8, 11);
        dueRivers(x, 2, 4, 4);
        dueRiver(x, 0, 300, 200, 100, 0);
        dueRiver(x, 1, 301, 200, 100, 0);
        // The middles are 33, then 15 and 33, then 23: the longer one is gone to, though it stands right.
        RiverJustifier y = Check.with(24, 0, "aaaaa iii iii iii iii iiiii iiiia iii");
        y.setTolerance(5);
        CHECK.dueRow("four lines", Check.breaks(y), 1, 4, 6, 7);
        dueRivers(y, 1, 3, 1);
        dueRiver(y, 0, 200, 101, 0);
    }

    private static void wrongArguments() {
        RiverJustifier x = Check.columns(15);
        for (int bad : new int[] {-1, 2, Integer.MIN_VALUE, Integer.MAX_VALUE}) {
            CHECK.due("no such river", x.river(bad, 0), UNKNOWN);
            CHECK.due("the river is looked at first", x.river(bad, -1), UNKNOWN);
        }
        CHECK.due("no such step", x.river(0, -1), BAD_VALUE);
        CHECK.due("no such step", x.river(0, Integer.MIN_VALUE), BAD_VALUE);
        CHECK.due("not so long", x.river(1, Integer.MAX_VALUE), NONE);
    }

    private static void breaking() {
        RiverJustifier x = Check.columns(15);
        CHECK.due("breakRivers()", x.breakRivers(), 1);
        // Two words in the third line leave only spaces of lengths 1 and 2.
        CHECK.dueRow("breaks", Check.breaks(x), 2, 5, 7, 10, 13, 14);
        dueRivers(x, 0, 2, 0);
        CHECK.due("demerits", x.count(2), 12100 + 500);
        CHECK.due("those of the best layout", x.count(3), 500);
        CHECK.due("breakRivers() again", x.breakRivers(), 0);
        CHECK.due("the best layout comes back", x.layBest(), 5);
        dueRivers(x, 2, 5, 6);
    }

    private static void breakingAgain() {
        // From 12 to 6 (of four lines the third, the first of them, is taken), then to 1, then to 0.
        RiverJustifier x = Check.columns(24);
        dueRivers(x, 2, 8, 12);
        CHECK.due("breakRivers()", x.breakRivers(), 3);
        CHECK.due("the strength", x.count(6), 0);
        CHECK.due("demerits", x.count(2), 3 * 12100 + 600);
        CHECK.dueRow("breaks", Check.breaks(x), 2, 5, 7, 10, 13, 15, 17, 20, 23);
    }

    private static void sameStrength() {
        // Two words in any of the three lines break both rivers; a short word at its end costs 100.
        // The words that end lines are 1, 4 and 7, or 2, 4 and 7, or 2, 5 and 7.
        dueBreaks("iii iii iii iii iii iii iii iii iii", 0, 12100 + 300, 1, 4, 7, 8);
        dueBreaks("iii aa iii iii iii iii iii iii iii", 0, 12100 + 300, 2, 4, 7, 8);
        dueBreaks("iii aa iii iii aa iii iii iii iii", 0, 12100 + 300, 2, 5, 7, 8);
        dueBreaks("iii iii iii iii iii iii iii aa iii", 0, 12200 + 300, 1, 4, 7, 8);
        // Of four lines those in the middle break them; less strength counts before demerits.
        dueBreaks("iii iii iii iii aa iii iii iii iii iii iii iii", 0, 12100 + 400, 2, 5, 7, 10, 11);
        dueBreaks("iii iii iii iii iii iii iii aa iii iii iii iii", 0, 12200 + 400, 2, 4, 7, 10, 11);
    }

    private static void dueBreaks(String text, int strength, int demerits, long... breaks) {
        RiverJustifier x = Check.with(24, 0, text);
        x.setSpace(0, 1, 3, 12);
        CHECK.due("breakRivers() of " + text, x.breakRivers(), 1);
        CHECK.due("strength of " + text, x.count(6), strength);
        CHECK.due("demerits of " + text, x.count(2), demerits);
        CHECK.dueRow("breaks of " + text, Check.breaks(x), breaks);
    }

    private static void tenTimesAtMost() {
        RiverJustifier x = new RiverJustifier();
        Model model = new Model();
        for (char sign : "i ".repeat(60).toCharArray()) {
            x.type(sign);
            model.type(sign);
        }
        CHECK.due("words", x.readParagraph(), model.readParagraph());
        CHECK.due("measure", x.setMeasure(15), model.setMeasure(15));
        CHECK.due("tolerance", x.setTolerance(3), model.setTolerance(3));
        CHECK.due("spaces", x.setSpace(0, 1, 4, 17), model.setSpace(0, 1, 4, 17));
        int[] taken = {10, 2, 0};
        int[] strengths = {21, 18, 18};
        for (int i = 0; i < taken.length; i++) {
            CHECK.due("breakRivers()", x.breakRivers(), taken[i]);
            CHECK.due("the strength", x.count(6), strengths[i]);
            CHECK.due("the model's breakRivers()", model.breakRivers(), taken[i]);
            CHECK.due("demerits as in the model", x.count(2), model.count(2));
        }
    }

    private static void nothingToBreak() {
        RiverJustifier x = Check.columns(6);
        CHECK.due("no rivers", x.breakRivers(), 0);
        CHECK.dueRow("nothing is taken", Check.breaks(x), 2, 5);
        RiverJustifier y = Check.with(24, 0, "iii ".repeat(15));
        dueRivers(y, 2, 5, 6);
        // Two words would need a space of 12, so that only the last line has a second choice: none.
        CHECK.due("no second choices", y.breakRivers(), 0);
        dueRivers(y, 2, 5, 6);
        CHECK.due("no paragraph", new RiverJustifier().breakRivers(), 0);
    }
}
