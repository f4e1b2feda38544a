import java.io.File;
import java.io.IOException;
import java.lang.reflect.Method;
import java.util.ArrayList;
import java.util.Arrays;
import java.util.List;

/**
 * Holds the tests of single sentences against the document: what stands there is said by
 * one of them, or is listed here as words that name no boundary.
 */
public final class SentencesTest {
    private static final String TESTS = "src/test/java";
    /** The start of a promise, such as `int open(int cart)`:, at which FaceTest looks. */
    private static final String SIGNATURE = "^`[^`]*`:";
    private static final String[] NO_BOUNDARY = {
        "Each cart has a rope with a seal, a number.",
        "(Range; first value.)",
        "Errors are reported by the constants below.",
        "The constants:",
        "Ahead of the calls `come`, `alter`, `reseal`, `open`, `openAll`, `set` the interface says:"
            + " ---- changes.",
        "Ahead of the calls `type`, `clearText`, `perform` the interface says: ---- texts.",
        "Ahead of the calls `undo`, `keep`, `restore` the interface says: ---- history.",
        "Ahead of the calls `cart`, `chain`, `brokenIn`, `total` the interface says: ---- what there"
            + " is.",
        "A cart comes.", "Opens a cart.", "Changes a setting.", "Returns something of a cart.",
        "Returns a cart of a chain.", "Returns a number of the whole.",
        "`cart`: a cart", "`vouchFor`:", "`character`:", "`what`:", "`rank`:", "`way`: 0", "; 1 ",
        "12 for why it is not cleared (see there)",
        "Returns the cart;", "Returns the number;", "Returns how many;", " and ",
    };

    private SentencesTest() {
    }

    public static void main(String[] args) throws IOException, ReflectiveOperationException {
        Document document = new Document();
        List<Sentence> sentences = sentences();
        for (String heading : document.headings()) {
            if (heading.startsWith("Promise ") || heading.equals(heading.toUpperCase())) {
                List<String> words = new ArrayList<>(Arrays.asList(NO_BOUNDARY));
                for (Sentence sentence : sentences) {
                    if (sentence.under().equals(heading)) {
                        words.add(sentence.says());
                    }
                }
                String left = document.saysBesides(heading, words).replaceFirst(SIGNATURE, "");
                Due.holds(heading + ": no test says '" + left + "'", !left.matches(".*\\w.*"));
            }
        }
        Due.finish();
    }

    private static List<Sentence> sentences() throws ReflectiveOperationException {
        List<Sentence> sentences = new ArrayList<>();
        String[] files = new File(TESTS).list((folder, name) -> name.endsWith("EdgesTest.java"));
        Due.holds("there are tests of single sentences", files != null && files.length > 0);
        for (String file : files == null ? new String[0] : files) {
            for (Method method : Class.forName(file.replace(".java", "")).getDeclaredMethods()) {
                Sentence sentence = method.getAnnotation(Sentence.class);
                if (sentence != null) {
                    sentences.add(sentence);
                }
            }
        }
        return sentences;
    }
}
