import java.io.IOException;
import java.nio.file.Files;
import java.nio.file.Path;
import java.util.HashSet;
import java.util.Set;

/** Counts what is not as due, prints it, and ends the program with exit code 1 if there was any. */
final class Tests {
    private static final Path DOCUMENT = Path.of("../shared/DOC.md");

    /** A call of the face whose answer, or whose exception, is looked at. */
    interface Call {
        long answer();
    }

    private final String name;
    private final String document = readDocument();
    private String sentence = "";
    private int lookedBefore;
    private final Set<String> sentences = new HashSet<>();
    private int looked;
    private int wrong;

    Tests(String name) {
        this.name = name;
    }

    /** What follows, up to the next sentence, looks at these words of the document. */
    void says(String words) {
        endSentence();
        sentences.add(words);
        sentence = words;
        lookedBefore = looked;
        if (!document.isEmpty() && !document.contains(inOneLine(words))) {
            // What the program does may still be right: whoever changes the document has to look.
            System.out.println(name + ": note: the document does not say \"" + words + "\"");
        }
    }

    void isTrue(String what, boolean holds) {
        looked++;
        if (!holds) {
            complain("not so: " + what);
        }
    }

    void due(String what, long got, long want) {
        looked++;
        if (got != want) {
            complain(what + " answered " + got + ", due is " + want);
        }
    }

    void refused(String what, Class<? extends RuntimeException> kind, Call call) {
        looked++;
        try {
            complain(what + " answered " + call.answer() + ", due is " + kind.getSimpleName());
        } catch (RuntimeException e) {
            if (e.getClass() != kind) {
                complain(what + " threw " + e + ", due is " + kind.getSimpleName());
            }
        }
    }

    int wrongs() {
        return wrong;
    }

    void end() {
        endSentence();
        System.out.println(name + ": " + (sentences.isEmpty() ? "" : sentences.size() + " sentences, ") + looked + " looked at, "
            + wrong + " not as due");
        if (wrong != 0) {
            System.exit(1);
        }
    }

    private void endSentence() {
        if (!sentences.isEmpty() && looked == lookedBefore) {
            complain("nothing was looked at");
        }
    }

    private void complain(String what) {
        wrong++;
        System.out.println(name + (sentence.isEmpty() ? "" : " \"" + sentence + "\"") + ": " + what);
    }

    private static String readDocument() {
        try {
            return Files.exists(DOCUMENT) ? inOneLine(Files.readString(DOCUMENT)) : "";
        } catch (IOException e) {
            return "";
        }
    }

    private static String inOneLine(String text) {
        return text.replaceAll("\\s+", " ");
    }
}
