import java.io.IOException;
import java.nio.file.Files;
import java.nio.file.Path;
import java.util.regex.Matcher;
import java.util.regex.Pattern;

/** Some rules of LANGUAGE.md that can be seen in the words of the program. */
public final class LanguageTest {
    private static final Path PROGRAM = Path.of("src/main/java/RopeSeals.java");
    private static final String[] FORBIDDEN = {
        "\\bthrows?\\b", "\\btry\\b", "\\bcatch\\b", "\\bsynchronized\\b", "\\bassert\\b",
        "\\bpackage\\b", "\\bimport\\b", "->", "::", "\\bequals\\b", "\\bhashCode\\b",
        "\\btoString\\b", "\\bprotected\\b", "\\bSystem\\.(?!arraycopy)", "Exact\\b", "\""};
    private static final int LONGEST_METHOD = 60;

    private LanguageTest() {
    }

    public static void main(String[] args) throws IOException {
        String source = Files.readString(PROGRAM);
        String code = source.replaceAll("(?s)/\\*.*?\\*/", "").replaceAll("//[^\n]*", "");
        for (String word : FORBIDDEN) {
            Matcher matcher = Pattern.compile(word).matcher(code);
            Due.holds("no '" + word + "' in the program", !matcher.find());
        }
        checkSigns(source);
        checkLengths(code);
        Due.finish();
    }

    private static void checkSigns(String source) {
        Due.due("signs above 127", source.chars().filter(sign -> sign > 127).count(), 0);
    }

    /** A method starts where a line ends its head with "{", and ends at the same indent. */
    private static void checkLengths(String code) {
        String[] lines = code.split("\n");
        Pattern head = Pattern.compile("( +)[^=]*\\) \\{");
        Pattern inner = Pattern.compile(" +(\\} )?(if|else|for|while|do|switch)\\b.*");
        for (int first = 0; first < lines.length; first++) {
            Matcher matcher = head.matcher(lines[first]);
            if (matcher.matches() && !inner.matcher(lines[first]).matches()) {
                int last = first;
                while (last < lines.length && !lines[last].equals(matcher.group(1) + "}")) {
                    last++;
                }
                Due.holds("short: " + lines[first].trim(), last - first <= LONGEST_METHOD);
            }
        }
    }
}
