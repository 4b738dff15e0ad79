import java.io.IOException;
import java.lang.reflect.Method;
import java.nio.file.Files;
import java.nio.file.Path;
import java.util.regex.Matcher;
import java.util.regex.Pattern;

/**
 * Whether the tests of sentences leave no sentence out: each quotes words that stand in the document
 * where it says, and together they quote every word of every promise and of the terms.
 */
public final class CoverTest extends Trial {
    private static final Class<?>[] TESTS = {
        RefusalsTest.class, PortageTest.class, TripsTest.class, SoonestTest.class, SeenTest.class,
        SheetsTest.class,
    };
    private static final Path DOCUMENT = Path.of("../shared/DOC.md");
    private static final int PROMISES = 31, TERMS = 0;
    private static final char QUOTED = '\0';

    /** What each promise says, without its call, by number; the terms as number 0. */
    private static final String[] PARTS = new String[PROMISES + 1];
    /** The same with all that is quoted blotted out. */
    private static final StringBuilder[] LEFT = new StringBuilder[PROMISES + 1];

    private static int wrong;

    private static void miss(String what) {
        wrong++;
        System.out.println(what);
    }

    private static String nameOf(int part) {
        return part == TERMS ? "the terms" : "promise " + part;
    }

    private static String find(String pattern, String document) {
        Matcher m = Pattern.compile(pattern, Pattern.DOTALL).matcher(document);
        if (!m.find()) {
            miss("the document has nothing like " + pattern);
            return "";
        }
        return m.group(1).replaceAll("```text|```|==== \\d", " ").replaceAll("\\s+", " ");
    }

    private static void readDocument() throws IOException {
        String document = Files.readString(DOCUMENT);
        PARTS[TERMS] = find("(An object is used for at most \\d+ calls after it has been made);", document)
            + "; " + find("\n## Terms\n(.*?)\nAhead of the calls", document);
        for (int k = 1; k <= PROMISES; k++) {
            PARTS[k] = find("\n## Promise " + k + ": \\w[^\n]*\n\n`[^`]*`: ([^\n]*)\n", document);
        }
        for (int k = TERMS; k <= PROMISES; k++) {
            LEFT[k] = new StringBuilder(PARTS[k]);
        }
    }

    /** Blots words out: false, if they don't stand in the part, or not just once. */
    private static boolean blot(int part, String words) {
        int start = PARTS[part].indexOf(words);
        if (start < 0 || PARTS[part].indexOf(words, start + 1) >= 0) {
            return false;
        }
        for (int i = start; i < start + words.length(); i++) {
            LEFT[part].setCharAt(i, QUOTED);
        }
        return true;
    }

    /** A promise says the words itself, or it uses a term that they tell of. */
    private static void quote(Method test, int promise, String words) {
        boolean isPromise = promise > TERMS && promise <= PROMISES;
        if (!(isPromise && blot(promise, words)) && !blot(TERMS, words)) {
            miss(test.getName() + ": neither " + nameOf(promise) + " nor the terms say just once '"
                + words + "'");
        }
    }

    private static void quoteAll() {
        for (Class<?> tests : TESTS) {
            for (Method test : testsOf(tests)) {
                Sentence of = test.getAnnotation(Sentence.class);
                for (int promise : of.promise()) {
                    quote(test, promise, of.says());
                }
                if (of.promise().length == 0) {
                    quote(test, TERMS, of.says());
                }
            }
        }
    }

    private static void lookForWhatIsLeft() {
        for (int k = TERMS; k <= PROMISES; k++) {
            for (String left : LEFT[k].toString().split(QUOTED + "+")) {
                if (left.matches(".*\\w.*")) {
                    miss(nameOf(k) + ": no test is for '" + left.trim() + "'");
                }
            }
        }
    }

    public static void main(String[] args) throws IOException {
        readDocument();
        quoteAll();
        lookForWhatIsLeft();
        System.out.println(wrong == 0 ? "every sentence has a test" : wrong + " sentences are amiss");
        if (wrong != 0) {
            System.exit(1);
        }
    }
}
