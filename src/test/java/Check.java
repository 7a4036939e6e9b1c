import java.util.ArrayList;
import java.util.List;

/** Compares answers with those that are due, and tells the wrong ones. */
final class Check {
    private int wrong = 0;
    private int checked = 0;
    // Told once, before the first wrong answer.
    private String subject = "";

    void due(String call, long got, long want) {
        checked++;
        if (got != want) {
            wrong++;
            if (!subject.isEmpty()) {
                System.out.println(subject);
                subject = "";
            }
            System.out.println(call + " answered " + got + ", due is " + want);
        }
    }

    void dueRow(String call, long[] got, long... want) {
        due(call + " (number of answers)", got.length, want.length);
        for (int i = 0; i < got.length && i < want.length; i++) {
            due(call + " [" + i + "]", got[i], want[i]);
        }
    }

    /** What is tested from now on; nothing if it is empty. */
    void tell(String theSubject) {
        subject = theSubject;
    }

    int answersChecked() {
        return checked;
    }

    /** Ends the test's program, with exit code 1 if an answer was wrong. */
    void end() {
        System.out.println(checked + " answers checked, " + wrong + " wrong");
        if (wrong != 0) {
            System.exit(1);
        }
    }

    static void typeAll(RiverJustifier justifier, String text) {
        justifier.clearText();
        for (int i = 0; i < text.length(); i++) {
            justifier.type(text.charAt(i));
        }
    }

    static int read(RiverJustifier justifier, String text) {
        typeAll(justifier, text);
        return justifier.readParagraph();
    }

    static int command(RiverJustifier justifier, String text) {
        typeAll(justifier, text);
        return justifier.command();
    }

    static RiverJustifier with(int measure, int hang, String text) {
        RiverJustifier justifier = new RiverJustifier();
        justifier.setMeasure(measure);
        justifier.setHang(hang);
        read(justifier, text);
        return justifier;
    }

    /** Words of width 6 and of three characters. */
    static RiverJustifier sixes(int words, int measure, int least, int natural, int greatest) {
        RiverJustifier justifier = with(measure, 50, "iii ".repeat(words));
        justifier.setSpace(0, least, natural, greatest);
        return justifier;
    }

    /** Three words of width 6 in each line, with spaces at 6 and 15, until second choices are taken. */
    static RiverJustifier columns(int words) {
        return sixes(words, 24, 1, 3, 12);
    }

    /** The last words of all lines. */
    static long[] breaks(RiverJustifier justifier) {
        long[] lasts = new long[justifier.count(1)];
        for (int line = 0; line < lasts.length; line++) {
            lasts[line] = justifier.line(line, 1);
        }
        return lasts;
    }

    /** What an object tells of its paragraph, settings, layout and rivers, in at most 300 calls for 9 words. */
    static long[] state(RiverJustifier justifier) {
        List<Integer> told = new ArrayList<>();
        for (int what = 0; what < 10; what++) {
            told.add(justifier.count(what));
            told.add(justifier.spaceWidth(what / 3, what % 3));
        }
        for (int word = 0; word < justifier.count(0); word++) {
            told.add(justifier.begin(word));
            for (int what = 0; what < 4; what++) {
                told.add(justifier.word(word, what));
            }
        }
        for (int line = 0; line < justifier.count(1); line++) {
            tellLine(justifier, line, told);
        }
        int rivers = justifier.count(4);
        int longest = justifier.count(5);
        for (int river = 0; river < rivers; river++) {
            for (int step = 0; step < longest; step++) {
                told.add(justifier.river(river, step));
            }
        }
        return told.stream().mapToLong(answer -> answer).toArray();
    }

    private static void tellLine(RiverJustifier justifier, int line, List<Integer> told) {
        for (int what = 0; what < 9; what++) {
            told.add(justifier.line(line, what));
        }
        int spaces = justifier.line(line, 1) - justifier.line(line, 0);
        for (int space = 0; space < spaces; space++) {
            for (int what = 0; what < 4; what++) {
                told.add(justifier.space(line, space, what));
            }
        }
        told.add(justifier.second(line, 0));
        told.add(justifier.second(line, 1));
        told.add(justifier.worst(line));
    }
}
