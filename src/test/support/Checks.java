import java.io.IOException;
import java.nio.file.Files;
import java.nio.file.Path;
import java.util.function.Supplier;

/** What the tests share: answers that are looked at, and the sentence of the document that they are due by. */
class Checks {
    static final int BAD = -1, STATE = -2, FULL = -3, NONE = -9, NO = -1000000;
    static final int LEAST = Integer.MIN_VALUE, GREATEST = Integer.MAX_VALUE;

    private static final Path DOCUMENT = Path.of("../shared/DOC.md");

    private static String document = "";
    private static String name = "";
    private static int tests = 0;
    private static int checked = 0;
    private static int wrong = 0;

    static void due(String call, int got, int want) {
        due(() -> call, got, want);
    }

    /** For a call whose words are long to join: they are wanted only if it is wrong. */
    static void due(Supplier<String> call, int got, int want) {
        checked++;
        if (got != want) {
            tellWrong(call.get() + " answered " + got + ", due is " + want);
        }
    }

    static void tellWrong(String what) {
        wrong++;
        System.out.println(name + ": " + what);
    }

    static void test(String itsName, Runnable test) {
        name = itsName;
        tests++;
        test.run();
    }

    /** A test of one sentence. Its words have to stand in the document, so that no test is of made-up words. */
    static void sentence(String words, Runnable test) {
        test("\"" + words + "\"", test);
        if (!document().contains(words)) {
            tellWrong("these words are not in the document");
        }
    }

    private static String document() {
        if (document.isEmpty()) {
            try {
                document = Files.readString(DOCUMENT).replaceAll("\\s+", " ");
            } catch (IOException e) {
                tellWrong(DOCUMENT + " can't be read");
                document = " ";
            }
        }
        return document;
    }

    static void end() {
        System.out.println(tests + " tests, " + checked + " answers looked at, " + wrong + " not as due");
        if (wrong != 0) {
            System.exit(1);
        }
    }
}
