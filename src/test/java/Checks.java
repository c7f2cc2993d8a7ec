import java.io.IOException;
import java.nio.file.Files;
import java.nio.file.Path;

/** Counts and prints the answers that are not the ones due; a test ends with its verdict. */
final class Checks {
    private static final Path DOCUMENT = Path.of("../shared/DOC.md");

    private final String test;
    private String document;
    private String sentence = "";
    private int made;
    private int wrong;

    Checks(String test) {
        this.test = test;
    }

    /** The checks up to the next call of this one are about these words, which the document has. */
    void sentence(String words) {
        sentence = " [" + words + "]";
        if (Files.exists(DOCUMENT)) {
            due("whether the document has these words", document().contains(words), true);
        }
    }

    private String document() {
        if (document == null) {
            try {
                document = Files.readString(DOCUMENT);
            } catch (IOException e) {
                throw new IllegalStateException("the document can't be read", e);
            }
        }
        return document;
    }

    void due(String what, long got, long want) {
        made++;
        if (got != want) {
            tell(what, String.valueOf(got), String.valueOf(want));
        }
    }

    /** Bit by bit, so that -0 is not taken for 0. */
    void due(String what, double got, double want) {
        made++;
        if (Double.doubleToLongBits(got) != Double.doubleToLongBits(want)) {
            tell(what, String.valueOf(got), String.valueOf(want));
        }
    }

    void due(String what, boolean got, boolean want) {
        made++;
        if (got != want) {
            tell(what, String.valueOf(got), String.valueOf(want));
        }
    }

    boolean isAnyWrong() {
        return wrong > 0;
    }

    void end() {
        System.out.println(test + ": " + made + " answers, " + wrong + " not as due");
        if (wrong > 0 || made == 0) {
            System.exit(1);
        }
    }

    private void tell(String what, String got, String want) {
        wrong++;
        if (wrong <= 40) {
            System.out.println(test + sentence + ": " + what + " answered " + got + ", due is " + want);
        }
    }
}
