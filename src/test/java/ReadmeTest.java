import java.io.IOException;
import java.lang.reflect.Method;
import java.lang.reflect.Modifier;
import java.nio.file.Files;
import java.nio.file.Path;
import java.util.List;
import java.util.regex.Matcher;
import java.util.regex.Pattern;
import java.util.stream.Stream;

/** README.md: its example answers what it says, and it tells every call, refusal and test. */
public final class ReadmeTest {
    private static final int[] REFUSALS = {-11, -12, -13, -14, -15, -16, -17, -18, -19, -20,
        -20000000, -20000001, -20000002};

    public static void main(String[] args) throws IOException {
        String page = Files.readString(Path.of("README.md"));
        everyCallIsTold(page);
        everyRefusalIsTold(page);
        everyTestIsTold(page);
        theExampleAnswersSo(page);
        coinsBelowZeroAreNoRefusals(page);
        Due.end();
    }

    private static void everyCallIsTold(String page) {
        for (Method call : TouchingCoins.class.getDeclaredMethods()) {
            if (!Modifier.isPublic(call.getModifiers())) {
                continue;
            }
            Matcher told = Pattern.compile("`" + call.getName() + "\\(([^)]*)\\)`").matcher(page);
            boolean isTold = told.find();
            Due.due("told: " + call.getName(), isTold ? 1 : 0, 1);
            int numbers = isTold ? told.group(1).split(",").length : 0;
            Due.due("numbers of " + call.getName(), numbers, call.getParameterCount());
        }
    }

    private static void everyRefusalIsTold(String page) {
        for (int refusal : REFUSALS) {
            dueRow(page, "" + refusal);
        }
        dueRow(page, "`BAD` " + TouchingCoins.BAD);
        dueRow(page, "`FULL` " + TouchingCoins.FULL);
        dueRow(page, "`NONE` " + TouchingCoins.NONE);
        dueRow(page, "`MANY` " + TouchingCoins.MANY);
    }

    /** A row of a table whose first cell has this, and no more digits behind it. */
    private static void dueRow(String page, String first) {
        Pattern row = Pattern.compile("(?m)^\\| ([^|]*, )?" + Pattern.quote(first) + "[, ][^|]*\\|");
        Due.due("told: " + first, row.matcher(page).find() ? 1 : 0, 1);
    }

    private static void everyTestIsTold(String page) throws IOException {
        try (Stream<Path> files = Files.list(Path.of("src/test/java"))) {
            List<String> names = files.map(f -> f.getFileName().toString().replace(".java", "")).toList();
            for (String name : names) {
                if (name.endsWith("Test")) {
                    Due.due("told: " + name, page.contains("`" + name + "`") ? 1 : 0, 1);
                }
            }
        }
    }

    /** Each call of the example stands on the page, with what it answers behind it. */
    private static void theExampleAnswersSo(String page) {
        TouchingCoins bench = new TouchingCoins();
        dueLine(page, "bench.bag(0, 1, 12);", "bag 0");
        bench.bag(0, 1, 12);
        int[] four = {-1, 2, 2, 3, 0, 1, -1, 0, 0, 0, 0, 2};
        Due.due("the four", page.contains("{-1, 2, 2, 3, 0, 1, -1, 0, 0, 0, 0, 2}") ? 1 : 0, 1);
        for (int i = 0; i < 12; i++) {
            bench.put(0, i, four[i]);
        }
        int q = bench.quad(0, 0);
        dueLine(page, "int q = bench.quad(0, 0);", q + ":");
        int up = bench.swap(q, 0);
        dueLine(page, "int up = bench.swap(q, 0);", up + ":");
        dueLine(page, "int up = bench.swap(q, 0);", "bend " + bench.coin(up, 0, 0) + " ");
        dueLine(page, "bench.steps(up);", bench.steps(up) + ":");
        dueLine(page, "bench.list(up, 6);", bench.list(up, 6) + " coins");
        dueLine(page, "bench.listed(5, 0);", bench.listed(5, 0) + ":");
    }

    private static void dueLine(String page, String code, String answer) {
        Pattern line = Pattern.compile(Pattern.quote(code) + " *// [^\n]*" + Pattern.quote(answer));
        Due.due(code + " " + answer, line.matcher(page).find() ? 1 : 0, 1);
    }

    // The page once said that all answers below 0 are refusals.
    private static void coinsBelowZeroAreNoRefusals(String page) {
        TouchingCoins bench = Due.with(Due.SMALL);
        Due.due("a bend", bench.coin(0, 0, 0), -1);
        Due.due("no quad", bench.steps(1), -1);
        Due.due("told so", page.contains("-1 out of `coin(q, i, 0)` is a bend") ? 1 : 0, 1);
        Due.due("told otherwise", page.contains("Answers below 0 are refusals") ? 1 : 0, 0);
    }
}
