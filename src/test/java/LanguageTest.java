import java.io.IOException;
import java.lang.reflect.Constructor;
import java.lang.reflect.Field;
import java.lang.reflect.Method;
import java.lang.reflect.Modifier;
import java.nio.file.Files;
import java.nio.file.Path;
import java.util.Arrays;
import java.util.Set;
import java.util.TreeSet;
import java.util.regex.Matcher;
import java.util.regex.Pattern;

/** The face of the class, and those rules of ../shared/LANGUAGE.md that a plain look can check. */
public final class LanguageTest {
    private static final Check CHECK = new Check();
    private static final String FACE = "begin(int) breakRivers() clearText() command() count(int) layBest() "
        + "line(int,int) readParagraph() river(int,int) second(int,int) setHang(int) setMeasure(int) "
        + "setSpace(int,int,int,int) setTolerance(int) space(int,int,int) spaceWidth(int,int) "
        + "takeSecond(int) type(char) word(int,int) worst(int)";

    private LanguageTest() {
    }

    public static void main(String[] args) throws IOException {
        face();
        constants();
        names();
        forbiddenWords();
        CHECK.end();
    }

    private static boolean isHidden(int modifiers) {
        return Modifier.isPrivate(modifiers);
    }

    private static void face() {
        Class<RiverJustifier> face = RiverJustifier.class;
        CHECK.due("public and final", face.getModifiers() & (Modifier.PUBLIC | Modifier.FINAL),
            Modifier.PUBLIC | Modifier.FINAL);
        Set<String> found = new TreeSet<>();
        for (Method method : face.getDeclaredMethods()) {
            if (!isHidden(method.getModifiers()) && !method.isSynthetic()) {
                String types = Arrays.toString(method.getParameterTypes()).replaceAll("[\\[\\] ]", "");
                found.add(method.getName() + "(" + types + ")");
                CHECK.due(method.getName() + " returns an int", method.getReturnType() == int.class ? 1 : 0, 1);
                CHECK.due(method.getName() + " is public", Modifier.isPublic(method.getModifiers()) ? 1 : 0, 1);
            }
        }
        CHECK.due("the methods are " + String.join(" ", found), String.join(" ", found).equals(FACE) ? 1 : 0, 1);
        Constructor<?>[] constructors = face.getDeclaredConstructors();
        CHECK.due("constructors", constructors.length, 1);
        CHECK.due("its arguments", constructors[0].getParameterCount(), 0);
        for (Class<?> inside : face.getDeclaredClasses()) {
            CHECK.due(inside + " is static", Modifier.isStatic(inside.getModifiers()) ? 1 : 0, 1);
            CHECK.due(inside + " is not public", Modifier.isPublic(inside.getModifiers()) ? 1 : 0, 0);
        }
    }

    private static void constants() {
        CHECK.due("UNKNOWN", RiverJustifier.UNKNOWN, -1001);
        CHECK.due("BAD_VALUE", RiverJustifier.BAD_VALUE, -1002);
        CHECK.due("FULL", RiverJustifier.FULL, -1003);
        CHECK.due("NONE", RiverJustifier.NONE, -1004);
        int open = 0;
        for (Field field : RiverJustifier.class.getDeclaredFields()) {
            open += isHidden(field.getModifiers()) ? 0 : 1;
        }
        CHECK.due("fields that are not private", open, 4);
    }

    private static void names() {
        Set<String> open = new TreeSet<>();
        for (Method method : RiverJustifier.class.getDeclaredMethods()) {
            if (!isHidden(method.getModifiers())) {
                open.add(method.getName());
            }
        }
        for (Method method : RiverJustifier.class.getDeclaredMethods()) {
            boolean same = isHidden(method.getModifiers()) && open.contains(method.getName());
            CHECK.due("a private method with a public name: " + method.getName(), same ? 1 : 0, 0);
        }
        for (Class<?> inside : RiverJustifier.class.getDeclaredClasses()) {
            for (Method method : inside.getDeclaredMethods()) {
                CHECK.due(inside + " has " + method.getName(), open.contains(method.getName()) ? 1 : 0, 0);
                CHECK.due(method.getName() + " takes too much", method.getParameterCount() > 7 ? 1 : 0, 0);
            }
            int fields = inside.getDeclaredFields().length;
            CHECK.due(inside + " has " + fields + " fields", fields > 20 ? 1 : 0, 0);
        }
    }

    private static void forbiddenWords() throws IOException {
        String source = Files.readString(Path.of("src/main/java/RiverJustifier.java"));
        for (int i = 0; i < source.length(); i++) {
            CHECK.due("sign " + i + " is 1 to 127", source.charAt(i) > 0 && source.charAt(i) < 128 ? 1 : 0, 1);
        }
        String code = source.replaceAll("\"(\\\\.|[^\"\\\\])*\"", "\"\"").replaceAll("(?s)/\\*.*?\\*/", "")
            .replaceAll("//[^\n]*", "");
        Pattern forbidden = Pattern.compile("\\b(throw|throws|try|catch|synchronized|assert|import|package|equals"
            + "|hashCode|instanceof|System|Object|var|\\w+Exact)\\b|->|::|static\\s*\\{|\\bstatic int\\[\\]");
        Matcher matcher = forbidden.matcher(code);
        while (matcher.find()) {
            CHECK.due("the source has " + matcher.group(), 1, 0);
        }
    }
}
