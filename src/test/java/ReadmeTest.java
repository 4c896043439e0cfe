import java.io.IOException;
import java.lang.reflect.InvocationTargetException;
import java.lang.reflect.Method;
import java.lang.reflect.Modifier;
import java.nio.file.Files;
import java.nio.file.Path;
import java.util.ArrayList;
import java.util.List;
import java.util.Set;
import java.util.TreeSet;
import java.util.regex.Matcher;
import java.util.regex.Pattern;

/** The calls that README.md shows as the use of the class answer what it says there, and it names every test. */
public final class ReadmeTest {
    private static final Path README = Path.of("README.md");
    private static final Path TESTS = Path.of("src/test/java");
    private static final String MADE = "CheriCore core = new CheriCore();";
    private static final Pattern CALL = Pattern.compile("core\\.(\\w+)\\(([^()]*)\\); *// ([^:]*[^: ])(: .*)?");
    private static final Pattern TEST_NAME = Pattern.compile("\\b([A-Z]\\w*Test)\\b");

    private final List<String> wrongs = new ArrayList<>();
    private final Set<String> shown = new TreeSet<>();
    private CheriCore core;
    private int calls;

    public static void main(String[] args) throws IOException {
        Tests t = new Tests("README.md");
        String text = Files.readString(README);
        use(t, text);
        howToRunTests(t, text);
        seesWhatIsWrong(t);
        t.end();
    }

    private static void use(Tests t, String text) {
        ReadmeTest read = new ReadmeTest();
        read.play(text);
        for (String wrong : read.wrongs) {
            t.isTrue(wrong, false);
        }
        t.isTrue("calls are shown", read.calls > 0);
        for (Method m : CheriCore.class.getDeclaredMethods()) {
            if (Modifier.isPublic(m.getModifiers())) {
                t.isTrue("the use of " + m.getName() + " is shown", read.shown.contains(m.getName()));
            }
        }
        for (String kind : List.of("IndexOutOfBounds", "IllegalArgument", "IllegalState")) {
            t.isTrue(kind + "Exception is shown", read.shown.contains("throws " + kind + "Exception"));
        }
    }

    private static void howToRunTests(Tests t, String text) throws IOException {
        t.isTrue("how to run the tests", text.contains("## How to run its tests\n\n    .ci/run\n"));
        t.isTrue(".ci/run can be run", Files.isExecutable(Path.of(".ci/run")));
        Set<String> named = new TreeSet<>();
        Matcher names = TEST_NAME.matcher(text);
        while (names.find()) {
            named.add(names.group(1));
        }
        Set<String> there = new TreeSet<>();
        try (var files = Files.newDirectoryStream(TESTS, "*Test.java")) {
            for (Path file : files) {
                there.add(file.getFileName().toString().replace(".java", ""));
            }
        }
        t.isTrue("tests that are named: " + named + ", that there are: " + there, named.equals(there));
    }

    /** A reader that is content with everything would hold README.md to nothing. */
    private static void seesWhatIsWrong(Tests t) {
        wrongsDue(t, 0, MADE, "core.run(5);  // 1: one", "core.run(1);  // throws IllegalStateException");
        wrongsDue(t, 0, MADE, "core.pack(0, 4294967296L);  // 49922", "core.word(0, 0xFFFFFFFF);  // 0", "",
            "core.memory(0);  // -1", "core.tag(0);  // false: none", "core.put(1, -2, 0);  // nothing");
        wrongsDue(t, 1, MADE, "core.run(5);  // 2: one");
        wrongsDue(t, 1, MADE, "core.run(5);  // throws IllegalStateException");
        wrongsDue(t, 1, MADE, "core.run(0);  // throws IllegalStateException");
        wrongsDue(t, 1, MADE, "core.run(0);  // 0");
        wrongsDue(t, 1, MADE, "core.tag(0);  // true");
        wrongsDue(t, 1, MADE, "core.tag(0);  // 0");
        wrongsDue(t, 1, MADE, "core.put(1, 2, 0);  // 2");
        wrongsDue(t, 1, MADE, "core.put(1, 2);  // nothing");
        wrongsDue(t, 1, MADE, "core.walk(5);  // 1");
        wrongsDue(t, 1, MADE, "core.run(5);");
        wrongsDue(t, 1, MADE, "core.run(five);  // 1");
        wrongsDue(t, 1, MADE, "core.pack(0, 4294967296);  // 49922");
        wrongsDue(t, 1, MADE, "core.bound(0, 0, 1);  // 0");
        wrongsDue(t, 1, "core.run(5);  // 1");
        ReadmeTest outside = new ReadmeTest();
        outside.play("`core.run(5)` answers 1\n");
        t.due("a call outside a block", outside.wrongs.size(), 1);
    }

    private static void wrongsDue(Tests t, int due, String... lines) {
        ReadmeTest read = new ReadmeTest();
        read.play("text\n\n```java\n" + String.join("\n", lines) + "\n```\n\ntext\n");
        t.due("wrongs in " + List.of(lines) + ": " + read.wrongs, read.wrongs.size(), due);
    }

    private void play(String text) {
        boolean inBlock = false;
        for (String line : text.split("\n")) {
            if (line.startsWith("```")) {
                inBlock = line.equals("```java");
                core = null;
            } else if (inBlock) {
                playLine(line.trim());
            } else if (line.contains("core.")) {
                wrongs.add("a call that nothing holds to its answer: " + line);
            }
        }
    }

    private void playLine(String line) {
        if (line.isEmpty()) {
            return;
        }
        if (line.equals(MADE)) {
            core = new CheriCore();
            return;
        }
        Matcher call = CALL.matcher(line);
        Method method = call.matches() ? methodNamed(call.group(1)) : null;
        if (core == null || method == null) {
            wrongs.add("not understood: " + line);
            return;
        }
        calls++;
        shown.add(method.getName());
        shown.add(call.group(3));
        String answer = answered(method, call.group(2).isEmpty() ? new String[0] : call.group(2).split(", *"));
        if (!answer.equals(call.group(3))) {
            wrongs.add(line + " answered " + answer);
        }
    }

    private static Method methodNamed(String name) {
        for (Method m : CheriCore.class.getDeclaredMethods()) {
            if (m.getName().equals(name) && Modifier.isPublic(m.getModifiers())) {
                return m;
            }
        }
        return null;
    }

    private String answered(Method method, String[] written) {
        Class<?>[] types = method.getParameterTypes();
        if (types.length != written.length) {
            return "nothing, for it takes " + types.length;
        }
        try {
            Object[] arguments = new Object[types.length];
            for (int i = 0; i < types.length; i++) {
                arguments[i] = argument(types[i], written[i]);
            }
            Object answer = method.invoke(core, arguments);
            return method.getReturnType() == void.class ? "nothing" : answer.toString();
        } catch (InvocationTargetException e) {
            return "throws " + e.getCause().getClass().getSimpleName();
        } catch (IllegalAccessException | IllegalArgumentException e) {
            return "nothing: " + e;
        }
    }

    private static Object argument(Class<?> type, String written) {
        if (type == boolean.class && (written.equals("true") || written.equals("false"))) {
            return written.equals("true");
        }
        if (type == long.class && written.endsWith("L")) {
            return Long.parseLong(written.substring(0, written.length() - 1));
        }
        int number = written.startsWith("0x") ? Integer.parseUnsignedInt(written.substring(2), 16)
            : Integer.parseInt(written);
        return type == long.class ? (Object) (long) number : (Object) number;
    }
}
