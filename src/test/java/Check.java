import java.io.IOException;
import java.io.UncheckedIOException;
import java.nio.file.Files;
import java.nio.file.Path;

/** Counts the answers that are not due and prints them. */
final class Check {
    private static final Path DOCUMENT = Path.of("..", "shared", "DOC.md");
    private static String document = "";
    private static String sentence = "";
    private static int made;
    private static int wrong;

    private Check() { }

    /** What is checked from here on is this sentence, which has to stand in the document. */
    static void says(String words) {
        if (document.isEmpty()) {
            document = read().replaceAll("\\s+", " ");
        }
        sentence = "";
        due("the document says \"" + words + "\"", document.contains(words) ? 1 : 0, 1);
        sentence = "\"" + words + "\": ";
    }

    private static String read() {
        try {
            return Files.readString(DOCUMENT);
        } catch (IOException e) {
            throw new UncheckedIOException(e);
        }
    }

    static void due(String what, long got, long want) {
        due(what, String.valueOf(got), String.valueOf(want));
    }

    static void due(String what, String got, String want) {
        made++;
        if (!got.equals(want)) {
            wrong++;
            System.out.println(sentence + what + " answered " + got + ", due is " + want);
        }
    }

    static void raises(String what, Class<? extends RuntimeException> want, Runnable call) {
        String got = "nothing";
        try {
            call.run();
        } catch (RuntimeException e) {
            got = e.getClass().getName();
        }
        due(what + " throws", got, want.getName());
    }

    static void end() {
        System.out.println(made + " checks, " + wrong + " wrong");
        if (wrong > 0 || made == 0) {
            System.exit(1);
        }
    }
}
