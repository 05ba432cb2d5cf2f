import java.io.IOException;
import java.lang.reflect.Constructor;
import java.lang.reflect.Field;
import java.lang.reflect.Method;
import java.lang.reflect.Modifier;
import java.nio.file.Files;
import java.nio.file.Path;
import java.util.Set;
import java.util.TreeSet;
import java.util.regex.Matcher;
import java.util.regex.Pattern;

/** The face of the document, and those of LANGUAGE.md's rules that the text of the class shows. */
public final class LanguageTest {
    private static final Set<String> CALLS = Set.of("bag", "put", "copy", "holds", "quad", "swap",
        "coin", "from", "steps", "step", "root", "same", "touch", "list", "listed", "find", "left",
        "seen", "chain", "count");
    private static final Set<String> CONSTANTS = Set.of("BAD", "FULL", "NONE", "MANY");
    private static final Set<String> LIBRARY = Set.of("System.arraycopy", "Arrays.fill",
        "Long.compare", "Math.abs", "Math.floorMod");
    private static final String[] LEFT_OUT = {"\\bthrow\\b", "\\btry\\b", "\\bcatch\\b",
        "\\bsynchronized\\b", "\\bassert\\b", "->", "::", "\\bpackage\\b", "Exact\\b",
        "\\bprotected\\b", "\\bdouble\\b", "\\bfloat\\b", "\\bvar\\b", "\\bequals\\b", "\\bhashCode\\b"};

    public static void main(String[] args) throws IOException {
        face();
        text();
        Due.end();
    }

    private static void face() {
        Class<?> type = TouchingCoins.class;
        int both = Modifier.PUBLIC | Modifier.FINAL;
        Due.due("public and final", type.getModifiers() & both, both);
        Set<String> calls = new TreeSet<>();
        for (Method m : type.getDeclaredMethods()) {
            if (Modifier.isPublic(m.getModifiers())) {
                calls.add(m.getName());
                Due.due("answers an int: " + m, m.getReturnType() == int.class ? 1 : 0, 1);
            } else {
                Due.due("private: " + m, Modifier.isPrivate(m.getModifiers()) ? 1 : 0, 1);
                Due.due("a name of its own: " + m, CALLS.contains(m.getName()) ? 1 : 0, 0);
            }
            Due.due("seven parameters: " + m, m.getParameterCount() <= 7 ? 1 : 0, 1);
        }
        Due.due("the calls", calls.equals(CALLS) ? 1 : 0, 1);
        Set<String> constants = new TreeSet<>();
        int kept = 0;
        for (Field f : type.getDeclaredFields()) {
            if (Modifier.isPublic(f.getModifiers())) {
                constants.add(f.getName());
            } else {
                Due.due("private: " + f, Modifier.isPrivate(f.getModifiers()) ? 1 : 0, 1);
            }
            if (Modifier.isStatic(f.getModifiers())) {
                Due.due("final: " + f, Modifier.isFinal(f.getModifiers()) ? 1 : 0, 1);
            } else {
                kept++;
            }
        }
        Due.due("the constants", constants.equals(CONSTANTS) ? 1 : 0, 1);
        Due.due("some twenty fields", kept <= 20 ? 1 : 0, 1);
        Constructor<?>[] made = type.getDeclaredConstructors();
        Due.due("one constructor", made.length, 1);
        Due.due("without parameters", made[0].getParameterCount(), 0);
        Due.due("some twelve classes", type.getDeclaredClasses().length < 12 ? 1 : 0, 1);
        for (Class<?> inside : type.getDeclaredClasses()) {
            Due.due("static: " + inside, Modifier.isStatic(inside.getModifiers()) ? 1 : 0, 1);
        }
    }

    private static void text() throws IOException {
        String source = Files.readString(Path.of("src/main/java/TouchingCoins.java"));
        Due.due("signs 1 to 127", source.chars().allMatch(c -> c > 0 && c < 128) ? 1 : 0, 1);
        String code = source.replaceAll("(?s)/\\*.*?\\*/", " ").replaceAll("//[^\n]*", " ");
        for (String word : LEFT_OUT) {
            Due.due("left out: " + word, Pattern.compile(word).matcher(code).find() ? 1 : 0, 0);
        }
        Matcher imports = Pattern.compile("import\\s+([\\w.]+)").matcher(code);
        while (imports.find()) {
            Due.due("import " + imports.group(1), imports.group(1).equals("java.util.Arrays") ? 1 : 0, 1);
        }
        Matcher library = Pattern.compile("\\b(System|Arrays|Math|Long|Integer)\\.\\w+").matcher(code);
        while (library.find()) {
            Due.due("library " + library.group(), LIBRARY.contains(library.group()) ? 1 : 0, 1);
        }
    }
}
