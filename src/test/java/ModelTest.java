import java.util.ArrayList;
import java.util.List;

/** Long runs of mixed calls, on the class and on the slow model beside it. */
public final class ModelTest {
    private static final Check CHECK = new Check();
    private static final int MOST_CALLS = 512;
    private static final String SIGNS = ".,;:!?-'\"().,.,";
    private static final String LETTERS = "abcdefghijklmnopqrstuvwxyzaeioutlIMWABZ0189";

    private static long seed = 1;
    private static RiverJustifier real;
    private static Model model;
    // What was done to the object, to bring a new one to the same state.
    private static final List<Call> HISTORY = new ArrayList<>();
    private static int calls = 0;
    private static int layouts = 0;
    private static int broken = 0;
    private static int seconds = 0;
    private static int longestRiver = 0;

    private ModelTest() {
    }

    public static void main(String[] args) {
        for (int run = 1; run <= 300; run++) {
            seed = run * 7919L;
            real = new RiverJustifier();
            model = new Model();
            HISTORY.clear();
            calls = 0;
            changeSettings();
            changeText("readParagraph()", paragraph(), () -> real.readParagraph(), () -> model.readParagraph());
            compareAll();
            for (int i = 0; i < 8; i++) {
                change();
                compareAll();
            }
        }
        System.out.println(layouts + " layouts, " + seconds + " second choices, " + broken
            + " times rivers were broken, longest river " + longestRiver);
        CHECK.due("runs that meet layouts", layouts > 1000 ? 1 : 0, 1);
        CHECK.due("runs that take second choices", seconds > 100 ? 1 : 0, 1);
        CHECK.due("runs that break up rivers", broken > 50 ? 1 : 0, 1);
        CHECK.due("runs that meet long rivers", longestRiver > 8 ? 1 : 0, 1);
        CHECK.end();
    }

    private interface Call {
        int answer();
    }

    /** A small generator with a fixed beginning, so that every run of the test is the same. */
    private static int next(int bound) {
        seed = seed * 6364136223846793005L + 1442695040888963407L;
        return (int) ((seed >>> 33) % bound);
    }

    /** A call that may change something. */
    private static int doCall(Call call) {
        if (calls >= MOST_CALLS) {
            renew();
        }
        HISTORY.add(call);
        calls++;
        return call.answer();
    }

    /** An object is promised for 512 calls, so a new one goes on where the old one ends. */
    private static void renew() {
        real = new RiverJustifier();
        calls = HISTORY.size();
        for (Call call : HISTORY) {
            call.answer();
        }
    }

    private static void compareChange(String call, Call onReal, Call onModel) {
        CHECK.due(call, doCall(onReal), onModel.answer());
    }

    /** A call that only tells something. */
    private static void compare(String call, Call onReal, Call onModel) {
        CHECK.due(call, tell(onReal), onModel.answer());
    }

    private static int tell(Call onReal) {
        if (calls >= MOST_CALLS) {
            renew();
        }
        calls++;
        return onReal.answer();
    }

    private static void changeText(String call, String text, Call onReal, Call onModel) {
        compareChange("clearText()", () -> real.clearText(), () -> model.clearText());
        for (char sign : text.toCharArray()) {
            compareChange("type " + sign, () -> real.type(sign), () -> model.type(sign));
        }
        compareChange(call + " of " + text, onReal, onModel);
    }

    private static String paragraph() {
        int length = next(4) == 0 ? 120 : 40 + next(80);
        int longest = 1 + next(7);
        StringBuilder text = new StringBuilder();
        while (text.length() < length) {
            int letters = 1 + next(longest);
            if (next(8) == 0) {
                text.append(SIGNS.charAt(next(SIGNS.length())));
            }
            for (int i = 0; i < letters; i++) {
                text.append(LETTERS.charAt(next(LETTERS.length())));
            }
            if (next(3) == 0) {
                text.append(SIGNS.charAt(next(SIGNS.length())));
            }
            text.append(next(12) == 0 ? "  " : " ");
        }
        if (next(15) == 0) {
            text.setCharAt(next(length), "\u00e9#\t_".charAt(next(4)));
        }
        text.setLength(length);
        return text.toString();
    }

    private static void changeSettings() {
        int measure = 10 + next(next(3) > 0 ? 50 : 191);
        compareChange("setMeasure", () -> real.setMeasure(measure), () -> model.setMeasure(measure));
        int hang = next(4) > 0 ? next(101) : next(3) * 50;
        compareChange("setHang", () -> real.setHang(hang), () -> model.setHang(hang));
        int tolerance = next(next(5) > 0 ? 8 : 21);
        compareChange("setTolerance", () -> real.setTolerance(tolerance), () -> model.setTolerance(tolerance));
        for (int i = 0; i < 3; i++) {
            int kind = i;
            boolean wide = next(6) == 0;
            int least = 1 + next(wide ? 40 : 3);
            int natural = least + next(wide ? 41 - least : 4);
            int greatest = natural + next(wide ? 41 - natural : 8);
            compareChange("setSpace", () -> real.setSpace(kind, least, natural, greatest),
                () -> model.setSpace(kind, least, natural, greatest));
        }
    }

    private static void change() {
        int value = next(220) - 5;
        int lines = Math.max(1, tell(() -> real.count(1)));
        int line = next(12) == 0 ? lines - 1 + next(3) : next(lines);
        switch (next(10)) {
            case 0:
                changeSettings();
                break;
            case 1:
                compareChange("setMeasure(" + value + ")", () -> real.setMeasure(value),
                    () -> model.setMeasure(value));
                break;
            case 2:
                compareChange("setHang(" + value + ")", () -> real.setHang(value), () -> model.setHang(value));
                break;
            case 3:
                compareChange("setTolerance(" + value / 5 + ")", () -> real.setTolerance(value / 5),
                    () -> model.setTolerance(value / 5));
                break;
            case 4:
                changeText("command()", commandText(), () -> real.command(), () -> model.command());
                break;
            case 5:
                compareChange("layBest()", () -> real.layBest(), () -> model.layBest());
                break;
            case 6:
            case 7:
                compareChange("takeSecond(" + line + ")", () -> real.takeSecond(line),
                    () -> model.takeSecond(line));
                seconds += model.count(2) != model.count(3) ? 1 : 0;
                break;
            default:
                int before = model.count(6);
                compareChange("breakRivers()", () -> real.breakRivers(), () -> model.breakRivers());
                broken += model.count(6) < before ? 1 : 0;
                break;
        }
    }

    private static String commandText() {
        String[] pieces = {"measure", "hang", "river", "space", "word", "clause", "sentence", "", "x"};
        String subject = pieces[next(7) == 0 ? next(9) : next(4)];
        StringBuilder text = new StringBuilder(subject);
        boolean space = subject.equals("space");
        if (space) {
            text.append(" ").append(pieces[next(7) == 0 ? next(9) : 4 + next(3)]);
        }
        int numbers = (space ? 3 : 1) + (next(5) == 0 ? next(3) - 1 : 0);
        int number = 0;
        for (int i = 0; i < numbers; i++) {
            number = space ? number + next(14) - 1 : next(next(2) == 0 ? 30 : 230);
            text.append(next(20) == 0 ? "  " : " ");
            text.append(next(6) == 0 ? "0" : "").append(number);
        }
        text.append(next(15) == 0 ? " " : "");
        return text.toString();
    }

    private static void compareAll() {
        for (int i = -1; i <= 10; i++) {
            int what = i;
            compare("count(" + what + ")", () -> real.count(what), () -> model.count(what));
        }
        int lines = model.count(1);
        layouts += lines > 0 ? 1 : 0;
        longestRiver = Math.max(longestRiver, model.count(5));
        for (int line = -1; line <= lines; line++) {
            compareLine(line);
        }
        for (int i = -1; i <= model.count(0); i++) {
            int word = i;
            compare("begin(" + word + ")", () -> real.begin(word), () -> model.begin(word));
            for (int j = -1; j <= 4; j++) {
                int what = j;
                compare("word(" + word + ", " + what + ")", () -> real.word(word, what),
                    () -> model.word(word, what));
            }
        }
        for (int i = -1; i <= model.count(4); i++) {
            int river = i;
            for (int j = -1; j <= model.count(5); j++) {
                int step = j;
                compare("river(" + river + ", " + step + ")", () -> real.river(river, step),
                    () -> model.river(river, step));
            }
        }
    }

    private static void compareLine(int line) {
        compare("worst(" + line + ")", () -> real.worst(line), () -> model.worst(line));
        for (int i = -1; i <= 9; i++) {
            int what = i;
            compare("line(" + line + ", " + what + ")", () -> real.line(line, what), () -> model.line(line, what));
        }
        for (int i = -1; i <= 3; i++) {
            int what = i;
            compare("second(" + line + ", " + what + ")", () -> real.second(line, what),
                () -> model.second(line, what));
            compare("spaceWidth(" + line + ", " + what + ")", () -> real.spaceWidth(line, what),
                () -> model.spaceWidth(line, what));
        }
        int spaces = model.line(line, 1) - model.line(line, 0);
        for (int i = -1; i <= spaces; i++) {
            int space = i;
            for (int j = -1; j <= 4; j++) {
                int what = j;
                compare("space(" + line + ", " + space + ", " + what + ")",
                    () -> real.space(line, space, what), () -> model.space(line, space, what));
            }
        }
    }
}
