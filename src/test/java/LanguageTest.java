import java.io.IOException;
import java.nio.file.Files;
import java.nio.file.Path;

/** The class keeps to LANGUAGE.md, as LanguageRules reads it; and LanguageRules sees what does not. */
public final class LanguageTest {

    private static final Check CHECK = new Check("LanguageTest");
    private static final Path CLASS_TEXT = Path.of("src/main/java/NumeralBabel.java");
    private static final String HEAD = "public final class NumeralBabel {\n";

    public static void main(String[] args) throws IOException {
        CHECK.judge("the class", "[]", LanguageRules.faultsOf(Files.readString(CLASS_TEXT)).toString());
        CHECK.judge("a plain class", "[]", faultsIn("private int a = 1;\n"
                + "private int twice(int b) { return b > 0 ? 2 * a : a / 2; }").toString());
        faces();
        kinds();
        library();
        fieldsAndExceptions();
        loopsAndCalls();
        CHECK.end();
    }

    private static java.util.List<String> faultsIn(String members) throws IOException {
        return LanguageRules.faultsOf(HEAD + members + "\n}\n");
    }

    /** The text is refused, and for this rule. */
    private static void seen(int rule, String text) throws IOException {
        String faults = LanguageRules.faultsOf(text).toString();
        CHECK.holds("rule " + rule + " is seen broken by " + text.replace('\n', ' ') + ", told: " + faults,
                faults.contains("rule " + rule + ",") || faults.contains("rule " + rule + ":"));
    }

    private static void seenIn(int rule, String members) throws IOException {
        seen(rule, HEAD + members + "\n}\n");
    }

    private static void faces() throws IOException {
        seen(1, "package a;\n" + HEAD + "}");
        seen(1, HEAD + "}\nclass Other { }");
        seen(1, "public class NumeralBabel { }");
        seenIn(1, "int a = 1;");
        seenIn(1, "void a() { }");
        seenIn(1, "protected void a() { }");
        seenIn(1, "public static final class Inside { }");
        seenIn(1, "private final class Inside { }");
        seenIn(1, "public void a() { } private static class Inside { private void a() { } }");
    }

    private static void kinds() throws IOException {
        seenIn(2, "private static class A { } private static class B extends A { }");
        seenIn(2, "private interface A { void a(); }");
        seenIn(2, "private Runnable a = () -> { };");
        seenIn(2, "private void a() { } private Runnable b = this::a;");
        seenIn(2, "private Object a = new Object() { };");
        seenIn(3, "private String a;");
        seenIn(3, "private int[][] a;");
        seenIn(3, "private double a;");
        seenIn(3, "private Integer a() { return 1; }");
        seenIn(3, "private void a(boolean b) { a((b ? \"c\" : \"d\").isEmpty()); }");
    }

    private static void library() throws IOException {
        seen(4, "import java.util.List;\n" + HEAD + "}");
        seenIn(4, "// " + (char) 233);
        seenIn(4, "private long a() { return System.nanoTime(); }");
        seenIn(4, "private int a() { return Math.addExact(1, 2); }");
        seenIn(4, "private int a() { return Integer.MAX_VALUE; }");
        seenIn(4, "private Object a = new Object();");
        seenIn(10, "private boolean a(int b) { return (\"c\" + b).isEmpty(); }");
        seenIn(10, "private int a() { switch (\"b\") { default: return 1; } }");
        seenIn(10, "private void a(String b) { b += \"c\"; }");
    }

    private static void fieldsAndExceptions() throws IOException {
        seenIn(5, "private static int a = 1;");
        seenIn(5, "private static final int[] A = new int[2];");
        seenIn(5, "private static final int A; static { A = 1; }");
        seenIn(6, "private void a() { throw new ArrayStoreException(); }");
        seenIn(6, "private void a(IllegalStateException e) { throw e; }");
        seenIn(6, "private void a(int b) { throw new IllegalStateException(\"c\" + b); }");
        seenIn(6, "public NumeralBabel() { throw new IllegalStateException(); }");
        seenIn(6, "private void a() { try { a(); } catch (IllegalStateException e) { } }");
        seenIn(6, "private void a() { synchronized (this) { } }");
        seenIn(6, "private void a(int b) { assert b > 0; }");
        seenIn(6, "private boolean a(Object b) { return b instanceof NumeralBabel; }");
        seenIn(6, "private NumeralBabel a(Object b) { return (NumeralBabel) b; }");
        seenIn(6, "private boolean a(String b, String c) { return b == c; }");
        seenIn(6, "public String toString() { return null; }");
    }

    private static void loopsAndCalls() throws IOException {
        seenIn(8, "private int a(int b) { return b > 0 ? a(b - 1) : 0; }");
        seenIn(8, "private int a(int b) { return c(b); } private int c(int b) { return b > 0 ? a(b - 1) : 0; }");
        seenIn(8, "public int a(int depth) { return depth > 0 ? a(depth - 1) : 0; }");
        CHECK.judge("a recursion with a depth", "[]",
                faultsIn("private int a(int depth) { return depth > 0 ? a(depth - 1) : 0; }").toString());
        seenIn(9, "private void a() { while (true) { } }");
        seenIn(9, "private void a() { for (;;) { } }");
        seenIn(9, "private void a(int b) { for (int i = 0; i != b; i++) { } }");
        seenIn(9, "private void a(int b) { for (int i = 0; i < b;) { } }");
        seenIn(9, "private void a(int b) { do { b++; } while (b != 0); }");
        seenIn(11, "private void a(int b, int c, int d, int e, int f, int g, int h, int i) { }");
        seenIn(11, "private void a() {" + "\n".repeat(60) + "}");
        seenIn(11, times(21, "private int aN;"));
        seenIn(11, times(12, "private static class AN { }"));
        seenIn(11, times(8, "private void aN() { aM(); }") + "private void a8() { }");
        CHECK.judge("calls eight deep", "[]",
                faultsIn(times(7, "private void aN() { aM(); }") + "private void a7() { }").toString());
        seenIn(12, "private NumeralBabel a() { return new NumeralBabel(); }");
        seenIn(12, "private int[] a() { return new int[2]; }");
    }

    /** The text so many times, with 0, 1, 2.. in place of N, and what comes next in place of M. */
    private static String times(int count, String text) {
        StringBuilder all = new StringBuilder();
        for (int i = 0; i < count; i++) {
            all.append(text.replace("N", Integer.toString(i)).replace("M", Integer.toString(i + 1))).append('\n');
        }
        return all.toString();
    }
}
