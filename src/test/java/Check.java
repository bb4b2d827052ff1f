import java.io.IOException;
import java.io.UncheckedIOException;
import java.nio.file.Files;
import java.nio.file.Path;

/** Counts the answers that are not as due, and ends a test with exit code 1 if there was one. */
final class Check {
    private static final Path DOCUMENT = Path.of("../shared/DOC.md");

    private final String test;
    private final String document = readDocument();
    private String promise = "";
    private int made = 0;
    private int wrong = 0;

    Check(String test) {
        this.test = test;
    }

    void promise(String name) {
        promise = name;
    }

    /** What follows looks at these words of the document, which must stand in it. */
    void says(String words) {
        promise("\"" + words + "\"");
        dueTrue("the document has no such words", document.isEmpty() || document.contains(words));
    }

    /** Empty where the document is not at hand: the answers can be looked at without it. */
    private static String readDocument() {
        try {
            return Files.exists(DOCUMENT) ? Files.readString(DOCUMENT) : "";
        } catch (IOException e) {
            throw new UncheckedIOException(e);
        }
    }

    void due(String call, long got, long want) {
        made++;
        if (got != want) {
            tell(call + " answered " + got + ", due is " + want);
        }
    }

    /** Compares the bits, so that -0.0f is not 0.0f; any NaN is as good as another. */
    void dueFloat(String call, float got, float want) {
        made++;
        if (Float.floatToIntBits(got) != Float.floatToIntBits(want)) {
            tell(call + " answered " + got + ", due is " + want);
        }
    }

    void dueTrue(String what, boolean is) {
        made++;
        if (!is) {
            tell(what);
        }
    }

    private void tell(String what) {
        wrong++;
        if (wrong <= 50) {
            System.out.println(test + ", " + promise + ": " + what);
        }
    }

    void end() {
        System.out.println(test + ": " + made + " checks, " + wrong + " wrong");
        if (wrong != 0 || made == 0) {
            System.exit(1);
        }
    }
}
