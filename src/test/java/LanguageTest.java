import java.io.IOException;
import java.nio.file.Files;
import java.nio.file.Path;
import java.util.List;

/** The source keeps to the rules of LANGUAGE.md that a reader of its tree can see; and the reader does see them. */
public final class LanguageTest {
    private static final Check CHECK = new Check();

    public static void main(String[] args) throws IOException {
        String source = Files.readString(Path.of("src/main/java/PromiseNames.java"));
        List<String> broken = Rules.brokenBy(source);
        CHECK.holds("the class keeps to LANGUAGE.md: " + broken, broken.isEmpty());
        plain();
        broken();
        CHECK.end();
    }

    private static void plain() throws IOException {
        keeps("public int year(int n) { return Math.max(n, 1); }");
        keeps("private static final int[] ROW = {1, 2};");
        keeps("private static final class Part { private final int[][] table = new int[2][3]; private Part next; }");
        keeps("private int a() { int n = 0; while (n < 3) { n++; } return n; }");
        keeps(manyTimes("private int a#;", 20));
        keeps(manyTimes("private static final class P# { }", 11));
        keeps(chain(8));
    }

    private static void broken() throws IOException {
        source(1, "package some; public final class PromiseNames { }");
        source(1, "public final class PromiseNames { } class Other { }");
        source(1, "public class PromiseNames { }");
        breaks(1, "public static final class Part { }");
        breaks(2, "private final class Part { }");
        breaks(2, "private int a() { class Part { } return 0; }");
        breaks(2, "private Object a() { return new Object() { }; }");
        breaks(2, "private Runnable a() { return () -> { }; }");
        breaks(2, "private Runnable a() { return System::gc; }");
        breaks(3, "private int[][][] cube = new int[1][1][1];");
        breaks(3, "private String[] words = new String[1];");
        breaks(3, "private Object thing;");
        breaks(3, "private java.util.Map<String, String> map;");
        source(4, "import java.util.Map; public final class PromiseNames { }");
        breaks(4, "private int a() { return Math.addExact(1, 2); }");
        breaks(4, "private long a() { return System.nanoTime(); }");
        breaks(4, "private char a() { return '\u00e9'; }");
        breaks(5, "private static int number;");
        breaks(5, "private static final Part PART = new Part(); private static final class Part { }");
        breaks(5, "static { }");
        breaks(6, "private int a() { throw new RuntimeException(); }");
        breaks(6, "private int a() { try { return 1; } finally { } }");
        breaks(6, "private int a() { synchronized (this) { return 1; } }");
        breaks(6, "private synchronized int a() { return 1; }");
        breaks(6, "private int a() { assert true; return 1; }");
        breaks(6, "private void a() throws Exception { }");
        breaks(6, "public int hashCode() { return 1; }");
        breaks(6, "private boolean a(String one, String other) { return one == other; }");
        breaks(8, "private int a() { return b(); } private int b() { return a(); }");
        breaks(9, "private void a() { for (;;) { } }");
        breaks(9, "private void a() { while (true) { } }");
        breaks(10, "private String a(String one) { return one + 1; }");
        breaks(11, "private void a(int a, int b, int c, int d, int e, int f, int g, int h) { }");
        breaks(11, "private void a() {" + "\n".repeat(60) + "}");
        breaks(11, manyTimes("private int a#;", 21));
        breaks(11, manyTimes("private static final class P# { }", 12));
        breaks(11, chain(9));
    }

    /** Methods that call one another, so many of them standing open at once in the last one. */
    private static String chain(int deep) {
        StringBuilder all = new StringBuilder();
        for (int i = 1; i <= deep; i++) {
            String answer = i < deep ? "a" + (i + 1) + "()" : "1";
            all.append("private int a").append(i).append("() { return ").append(answer).append("; } ");
        }
        return all.toString();
    }

    private static String manyTimes(String member, int times) {
        StringBuilder all = new StringBuilder();
        for (int i = 0; i < times; i++) {
            all.append(member.replace("#", String.valueOf(i))).append(' ');
        }
        return all.toString();
    }

    private static String inside(String members) {
        return "public final class PromiseNames { " + members + " }";
    }

    private static void keeps(String members) throws IOException {
        List<String> found = Rules.brokenBy(inside(members));
        CHECK.holds("nothing is broken by " + members + ": " + found, found.isEmpty());
    }

    private static void breaks(int rule, String members) throws IOException {
        source(rule, inside(members));
    }

    private static void source(int rule, String source) throws IOException {
        List<String> found = Rules.brokenBy(source);
        boolean isTold = found.stream().anyMatch(one -> one.startsWith("rule " + rule + ":"));
        CHECK.holds("rule " + rule + " is broken by " + source + ": " + found, isTold);
    }
}
