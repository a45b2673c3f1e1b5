import java.io.IOException;
import java.nio.file.DirectoryStream;
import java.nio.file.Files;
import java.nio.file.Path;
import java.util.Arrays;
import java.util.List;
import java.util.Set;
import java.util.TreeSet;
import java.util.regex.Matcher;
import java.util.regex.Pattern;

/** What README.md says is so: the answers told behind its calls, the classes that it names, and its table of tests. */
public final class ReadmeTest {

    private static final Check CHECK = new Check("ReadmeTest");
    private static final Path TESTS = Path.of("src/test/java");
    private static final Pattern BLOCK = Pattern.compile("(?s)```java\n(.*?)```");
    // A call, its answer or its exception, the words of the saying, and what is said of it.
    private static final Pattern LINE = Pattern.compile("babel\\.(\\w+)\\(([-\\d, ]*)\\);\\s*// "
            + "(-?\\d+|throws \\w+)( \"[\\d ]*\")?(: .*)?");
    private static final Pattern ROW = Pattern.compile("(?m)^\\| `(\\w+)` \\| (.*) \\|$");
    private static final Pattern PROMISES = Pattern.compile("promises (\\d+) to (\\d+)");
    private static final Pattern CLASS = Pattern.compile("`([A-Z][a-z]\\w*)`");

    public static void main(String[] args) throws IOException {
        String page = Files.readString(Path.of("README.md"));
        calls(page);
        classes(page);
        tests(page);
        CHECK.end();
    }

    /** All blocks use one object, one behind the other. */
    private static void calls(String page) {
        NumeralBabel babel = new NumeralBabel();
        Set<String> used = new TreeSet<>();
        int made = 0;
        Matcher block = BLOCK.matcher(page);
        while (block.find()) {
            for (String line : block.group(1).split("\n")) {
                Matcher call = LINE.matcher(line);
                if (call.matches()) {
                    answer(babel, call);
                    used.add(call.group(1));
                } else {
                    CHECK.judge("the only other line", "NumeralBabel babel = new NumeralBabel();", line);
                    made++;
                }
            }
        }
        CHECK.due("objects", 1, made);
        CHECK.judge("every call is shown", new TreeSet<>(Arrays.asList(Calls.NAMES)).toString(), used.toString());
    }

    private static void answer(NumeralBabel babel, Matcher call) {
        String what = call.group(1) + "(" + call.group(2) + ")";
        String[] told = call.group(2).isEmpty() ? new String[0] : call.group(2).split(", ");
        CHECK.due("arguments of " + what, arguments(call.group(1)), told.length);
        long[] row = new long[5];
        for (int i = 0; i < told.length; i++) {
            row[i] = Long.parseLong(told[i]);
        }
        int which = List.of(Calls.NAMES).indexOf(call.group(1));
        String want = call.group(3).replace("throws ", "throws java.lang.");
        CHECK.judge(what, want, Check.outcome(() -> Calls.call(babel, which, row)));
        boolean says = call.group(1).startsWith("say") && !want.startsWith("throws");
        CHECK.holds(what + " is told with its words, if it says some", says == (call.group(4) != null));
        if (says) {
            CHECK.judge("words of " + what, call.group(4).trim(), "\"" + Check.words(babel) + "\"");
        }
    }

    private static long arguments(String name) {
        return Arrays.stream(NumeralBabel.class.getDeclaredMethods()).filter(method -> method.getName().equals(name))
                .findFirst().orElseThrow().getParameterCount();
    }

    private static void classes(String page) {
        Set<String> want = new TreeSet<>(Set.of("NumeralBabel"));
        for (Class<?> inside : NumeralBabel.class.getDeclaredClasses()) {
            want.add(inside.getSimpleName());
        }
        Set<String> got = new TreeSet<>();
        String part = page.substring(page.indexOf("## How it is built"), page.indexOf("## How to run its tests"));
        Matcher name = CLASS.matcher(part);
        while (name.find()) {
            got.add(name.group(1));
        }
        CHECK.judge("the classes", want.toString(), got.toString());
    }

    private static void tests(String page) throws IOException {
        Set<String> want = new TreeSet<>();
        try (DirectoryStream<Path> files = Files.newDirectoryStream(TESTS, "*.java")) {
            for (Path file : files) {
                want.add(file.getFileName().toString().replace(".java", ""));
            }
        }
        String part = page.substring(page.indexOf("## How to run its tests"));
        Set<String> got = new TreeSet<>();
        Matcher name = CLASS.matcher(part.replace("Check.sentence", "Check"));
        while (name.find()) {
            got.add(name.group(1));
        }
        CHECK.judge("the tests and what helps them", want.toString(), got.toString());
        Set<String> rows = new TreeSet<>();
        Matcher row = ROW.matcher(part);
        while (row.find()) {
            CHECK.holds("a row of its own for " + row.group(1), rows.add(row.group(1)));
            promises(row.group(1), row.group(2));
        }
        want.removeIf(file -> !file.endsWith("Test"));
        CHECK.judge("the rows", want.toString(), rows.toString());
    }

    /** A test that is told to look at some promises names each of them and no others. */
    private static void promises(String test, String told) throws IOException {
        Matcher range = PROMISES.matcher(told);
        if (!range.find()) {
            return;
        }
        Set<Integer> want = new TreeSet<>();
        for (int promise = Integer.parseInt(range.group(1)); promise <= Integer.parseInt(range.group(2)); promise++) {
            want.add(promise);
        }
        Set<Integer> got = new TreeSet<>();
        Matcher named = Pattern.compile("CHECK\\.(?:promise|sentence)\\((\\d+)")
                .matcher(Files.readString(TESTS.resolve(test + ".java")));
        while (named.find()) {
            got.add(Integer.valueOf(named.group(1)));
        }
        CHECK.judge("promises of " + test, want.toString(), got.toString());
    }
}
