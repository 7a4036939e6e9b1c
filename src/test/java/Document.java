import java.io.IOException;
import java.nio.file.Files;
import java.nio.file.Path;
import java.util.LinkedHashMap;
import java.util.Map;

/**
 * The document's sentences: each one is quoted with the test of its own, or as one that names no boundary case.
 * At the end none may be left, so that no sentence is forgotten, and a changed one is told.
 */
final class Document {
    private static final Path PATH = Path.of("../shared/DOC.md");

    private final Check check;
    // What has not been quoted yet, by section.
    private final Map<String, String> left = new LinkedHashMap<>();
    private String section = "";

    Document(Check theCheck) throws IOException {
        check = theCheck;
        String name = "";
        for (String line : Files.readAllLines(PATH)) {
            boolean heading = line.startsWith("## ");
            if (heading || line.matches("[A-Z]+")) {
                name = heading ? line.substring(3).replaceAll(":.*", "") : line;
                left.put(name, "");
            } else if (!isFace(line)) {
                left.merge(name, line + "\n", String::concat);
            }
        }
    }

    /** Signatures, and headings between them: LanguageTest looks at the face. */
    private static boolean isFace(String line) {
        return line.matches("`.*`") || line.startsWith("----") || line.startsWith("# ");
    }

    /** The next quotes stand in this section. */
    void section(String name) {
        check.due("the document has the section " + name, left.containsKey(name) ? 1 : 0, 1);
        section = name;
    }

    /** Runs the test of a sentence. */
    void test(String sentence, Runnable test) {
        plain(sentence);
        int before = check.answersChecked();
        check.tell(section + ": " + sentence);
        test.run();
        check.tell("");
        check.due("the test of '" + sentence + "' checks answers", check.answersChecked() > before ? 1 : 0, 1);
    }

    /** A sentence that names no boundary case. */
    void plain(String sentence) {
        String text = left.getOrDefault(section, "");
        int place = text.indexOf(sentence);
        check.due("'" + sentence + "' stands in " + section, place >= 0 ? 1 : 0, 1);
        if (place >= 0) {
            left.put(section, text.substring(0, place) + text.substring(place + sentence.length()));
        }
    }

    /** Tells which sentences of these sections were not quoted. */
    void end(String... sections) {
        for (String name : sections) {
            String rest = left.getOrDefault(name, "?").trim();
            check.due("not quoted in " + name + ": '" + rest + "'", rest.length(), 0);
        }
    }
}
