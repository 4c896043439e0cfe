import java.io.IOException;
import java.nio.file.Files;
import java.nio.file.Path;
import java.util.List;
import java.util.Set;

/** The file keeps to what a machine can see of the rules of LANGUAGE.md. Another class is not asked for it. */
public final class LanguageTest {
    private static final Path FILE = Path.of("src/main/java/CheriCore.java");
    private static final int DEEPEST = 8;
    private static final int CLASSES = 12;
    private static final Set<String> LIBRARY = Set.of("Math.min", "Integer.bitCount", "Integer.compareUnsigned",
        "System.arraycopy");

    public static void main(String[] args) throws IOException {
        Tests t = new Tests("LANGUAGE.md");
        if (Inside.isOurs(new CheriCore()) && Source.canBeRead()) {
            rules(t, Source.read(FILE));
            seesWhatIsWrong(t);
        }
        t.end();
    }

    private static void rules(Tests t, Source source) {
        for (String wrong : source.wrongs) {
            t.isTrue(wrong, false);
        }
        t.isTrue("rule 4: the library: " + source.library, LIBRARY.containsAll(source.library));
        t.isTrue("rule 11: some twelve classes: " + source.classes, source.classes.size() <= CLASSES);
        for (String method : source.calls.keySet()) {
            int depth = source.depth(method, 0);
            t.isTrue("rules 8 and 11: " + method + " goes " + depth + " deep", depth <= DEEPEST);
        }
    }

    /** A reader that is content with everything would hold the file to nothing. */
    private static void seesWhatIsWrong(Tests t) throws IOException {
        wrongsDue(t, 0, "public int run() { int n = 0; for (int i = 0; i < 3; i++) { n += i / 2; } return n; }");
        wrongsDue(t, 1, "public int run(int n) { return 5 / n; }");
        wrongsDue(t, 1, "private int run(int n, int m) { return n; } public int run() { return 1; }");
        wrongsDue(t, 1, "int seen() { return 1; }");
        wrongsDue(t, 1, "private static int held;");
        wrongsDue(t, 1, "private static final int[][] HELD = null;");
        wrongsDue(t, 1, "private Object held;");
        wrongsDue(t, 1, "public A() { throw new IllegalStateException(); }");
        wrongsDue(t, 1, "public void run() { throw new Error(); }");
        wrongsDue(t, 1, "public void run() { while (true) { } }");
        wrongsDue(t, 1, "public void run() { for (int i = 0; i < 3; i++) { new A(); } }");
        wrongsDue(t, 1, "public int a(int b, int c, int d, int e, int f, int g, int h, int i) { return 1; }");
        wrongsDue(t, 1, "public String a(int b) { return \"b\" + b; }");
        wrongsDue(t, 1, "public void run() { assert true; }");
        wrongsDue(t, 1, "public void run() {" + "\n".repeat(60) + "}");
        wrongsDue(t, 1, "private class Inner { }");
        Source deep = written("private void a() { b(); } private void b() { c(); } private void c() { Math.abs(1); }");
        t.due("three deep", deep.depth("A.a", 0), 3);
        t.isTrue("the library is seen", deep.library.equals(Set.of("Math.abs")));
        t.isTrue("a cycle is seen", written("private void a() { b(); } private void b() { a(); }").depth("A.a", 0) > DEEPEST);
    }

    private static void wrongsDue(Tests t, int due, String members) throws IOException {
        Source source = written(members);
        t.due("wrongs in " + members + ": " + source.wrongs, source.wrongs.size(), due);
    }

    private static Source written(String members) throws IOException {
        Path directory = Files.createTempDirectory("language");
        Path file = directory.resolve("A.java");
        try {
            Files.writeString(file, "public final class A { " + members + " }\n");
            return Source.read(file);
        } finally {
            for (Path made : List.of(file, directory)) {
                Files.deleteIfExists(made);
            }
        }
    }
}
