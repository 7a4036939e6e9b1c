import java.io.IOException;
import java.nio.file.Files;
import java.nio.file.Path;
import java.util.ArrayList;
import java.util.List;
import java.util.regex.Matcher;
import java.util.regex.Pattern;

/** The README's example: its calls are made here in the same order, and must answer what it tells. */
public final class ReadmeTest {
    private static final Check CHECK = new Check();
    // A call, and the number that its comment tells; the call of type in a loop tells none.
    private static final Pattern ROW = Pattern.compile("\\s*justifier\\.(\\w+\\([\\d, ]*\\)); +// (-?\\d+): .*");
    private static final String TEXT = "\"The rain in Spain stays mainly in the plain,\" she said;"
        + " so we went to see it, and all of it was true. Then we left.";

    private static final List<String> rowCalls = new ArrayList<>();
    private static final List<Integer> rowAnswers = new ArrayList<>();
    private static int made = 0;

    private ReadmeTest() {
    }

    public static void main(String[] args) throws IOException {
        String readme = Files.readString(Path.of("README.md"));
        for (String line : readme.split("\n")) {
            Matcher row = ROW.matcher(line);
            if (row.matches()) {
                rowCalls.add(row.group(1));
                rowAnswers.add(Integer.parseInt(row.group(2)));
            }
        }
        example();
        CHECK.due("calls of the example that are made here", made, rowCalls.size());
        namesEveryCall(readme);
        CHECK.end();
    }

    /** The next row of the example is this call, and tells this answer. */
    private static void row(String call, int answer) {
        boolean told = made < rowCalls.size() && rowCalls.get(made).equals(call);
        CHECK.due("row " + made + " of the README is " + call, told ? 1 : 0, 1);
        if (told) {
            CHECK.due(call, answer, rowAnswers.get(made));
        }
        made++;
    }

    private static void example() {
        RiverJustifier justifier = new RiverJustifier();
        Check.typeAll(justifier, TEXT);
        row("readParagraph()", justifier.readParagraph());
        row("setMeasure(63)", justifier.setMeasure(63));
        row("count(1)", justifier.count(1));
        row("count(2)", justifier.count(2));
        row("line(0, 1)", justifier.line(0, 1));
        row("line(0, 6)", justifier.line(0, 6));
        row("line(0, 8)", justifier.line(0, 8));
        row("begin(1)", justifier.begin(1));
        row("space(0, 0, 0)", justifier.space(0, 0, 0));
        row("worst(0)", justifier.worst(0));
        row("second(3, 0)", justifier.second(3, 0));
        row("takeSecond(3)", justifier.takeSecond(3));
        row("layBest()", justifier.layBest());
        row("count(6)", justifier.count(6));
        row("river(0, 0)", justifier.river(0, 0));
        row("river(0, 1)", justifier.river(0, 1));
        row("breakRivers()", justifier.breakRivers());
        row("count(6)", justifier.count(6));
        row("clearText()", justifier.clearText());
        Check.typeAll(justifier, "space word 2 3 5");
        row("command()", justifier.command());
    }

    private static void namesEveryCall(String readme) {
        String calls = "type clearText readParagraph command setMeasure setHang setTolerance setSpace layBest "
            + "takeSecond breakRivers count spaceWidth word line space begin second worst river";
        for (String call : calls.split(" ")) {
            CHECK.due("the README names " + call, readme.contains("`" + call + "`") ? 1 : 0, 1);
        }
    }
}
