/** Compares answers with those that are due, and tells the wrong ones. */
final class Check {
    private int wrong = 0;
    private int checked = 0;

    void due(String call, long got, long want) {
        checked++;
        if (got != want) {
            wrong++;
            System.out.println(call + " answered " + got + ", due is " + want);
        }
    }

    void dueRow(String call, long[] got, long... want) {
        due(call + " (number of answers)", got.length, want.length);
        for (int i = 0; i < got.length && i < want.length; i++) {
            due(call + " [" + i + "]", got[i], want[i]);
        }
    }

    /** Ends the test's program, with exit code 1 if an answer was wrong. */
    void end() {
        System.out.println(checked + " answers checked, " + wrong + " wrong");
        if (wrong != 0) {
            System.exit(1);
        }
    }

    static void typeAll(RiverJustifier justifier, String text) {
        justifier.clearText();
        for (int i = 0; i < text.length(); i++) {
            justifier.type(text.charAt(i));
        }
    }

    static int read(RiverJustifier justifier, String text) {
        typeAll(justifier, text);
        return justifier.readParagraph();
    }

    static int command(RiverJustifier justifier, String text) {
        typeAll(justifier, text);
        return justifier.command();
    }

    static RiverJustifier with(int measure, int hang, String text) {
        RiverJustifier justifier = new RiverJustifier();
        justifier.setMeasure(measure);
        justifier.setHang(hang);
        read(justifier, text);
        return justifier;
    }

    /** The last words of all lines. */
    static long[] breaks(RiverJustifier justifier) {
        long[] lasts = new long[justifier.count(1)];
        for (int line = 0; line < lasts.length; line++) {
            lasts[line] = justifier.line(line, 1);
        }
        return lasts;
    }
}
