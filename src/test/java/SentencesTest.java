import java.io.IOException;
import java.nio.file.DirectoryStream;
import java.nio.file.Files;
import java.nio.file.Path;
import java.util.ArrayList;
import java.util.List;
import java.util.Map;
import java.util.TreeMap;
import java.util.regex.Matcher;
import java.util.regex.Pattern;

/**
 * Every sentence of the document's terms and promises has a test: the words that the tests give to Check.sentence stand
 * in the document, and together they leave none of it out.
 */
public final class SentencesTest {

    private static final Check CHECK = new Check("SentencesTest");
    private static final Path DOCUMENT = Path.of("../shared/DOC.md");
    private static final Path TESTS = Path.of("src/test/java");
    private static final Pattern CITED = Pattern.compile(
            "CHECK\\.sentence\\((\\d+),\\s*((?:\"[^\"]*\"\\s*\\+?\\s*)+)\\)");
    private static final Pattern PART = Pattern.compile("\"([^\"]*)\"");

    // What the document says ahead of the promises: beside sentences it has headings, the face and lists of calls.
    private static final String[] NO_SENTENCES = {"# NumeralBabel", "## What it is", "## The public face", "## Terms",
        "### Grammars", "### Hearing", "### Learning", "### Cords", "Classes, seams, sayings"};

    public static void main(String[] args) throws IOException {
        Map<Integer, String> told = sections(Files.readString(DOCUMENT));
        Map<Integer, List<String>> cited = citations();
        for (int promise = 0; promise <= 34; promise++) {
            CHECK.promise(promise);
            CHECK.holds("it is in the document", told.containsKey(promise));
            CHECK.holds("a test cites it", cited.containsKey(promise));
            cover(told.getOrDefault(promise, ""), cited.getOrDefault(promise, List.of()));
        }
        CHECK.due("promises, and what stands ahead of them", 35, told.size());
        CHECK.end();
    }

    private static void cover(String told, List<String> cited) {
        boolean[] covered = new boolean[told.length()];
        for (String words : cited) {
            int at = told.indexOf(words);
            CHECK.holds("the document says '" + words + "'", at >= 0);
            for (; at >= 0; at = told.indexOf(words, at + 1)) {
                for (int i = 0; i < words.length(); i++) {
                    covered[at + i] = true;
                }
            }
        }
        StringBuilder left = new StringBuilder();
        for (int i = 0; i < told.length(); i++) {
            left.append(covered[i] ? ' ' : told.charAt(i));
        }
        CHECK.judge("what no test cites", "", plain(left.toString()).replaceAll("^[ .-]*$", ""));
    }

    /** What each promise says behind its face; with 0 what stands ahead of them. */
    private static Map<Integer, String> sections(String document) {
        Map<Integer, String> sections = new TreeMap<>();
        String[] parts = document.split("\n## Promise ");
        sections.put(0, plain(termsOf(parts[0])));
        for (int i = 1; i < parts.length; i++) {
            String part = parts[i].split("\n## ")[0];
            int number = Integer.parseInt(part.substring(0, part.indexOf(':')));
            String body = part.substring(part.indexOf('\n'));
            sections.put(number, plain(body.replaceFirst("(?s)^\\s*`[^`]*`: ", "")));
        }
        return sections;
    }

    private static String termsOf(String ahead) {
        String text = ahead.replaceFirst("(?s)```java.*?```", "");
        // The first paragraph only names what the terms say.
        text = text.replaceFirst("How languages count: [^\n]*", "").replace("; what later calls answer is free.", "");
        for (String heading : NO_SENTENCES) {
            text = text.replaceFirst("(?m)^" + Pattern.quote(heading) + "$", "");
        }
        return text.replaceAll("Ahead of the calls [^\n]* the interface says: ----"
                + " (grammars|hearing|learning|what a grammar has|cords)\\.", "")
                .replaceAll("Ahead of the calls [^\n]* the interface says: ", "");
    }

    private static String plain(String text) {
        return text.replaceAll("\\s+", " ").trim();
    }

    private static Map<Integer, List<String>> citations() throws IOException {
        Map<Integer, List<String>> cited = new TreeMap<>();
        try (DirectoryStream<Path> files = Files.newDirectoryStream(TESTS, "EdgesOf*Test.java")) {
            for (Path file : files) {
                Matcher call = CITED.matcher(Files.readString(file));
                while (call.find()) {
                    StringBuilder words = new StringBuilder();
                    Matcher part = PART.matcher(call.group(2));
                    while (part.find()) {
                        words.append(part.group(1));
                    }
                    cited.computeIfAbsent(Integer.valueOf(call.group(1)), number -> new ArrayList<>())
                            .add(plain(words.toString()));
                }
            }
        }
        return cited;
    }
}
