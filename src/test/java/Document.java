import java.io.IOException;
import java.nio.file.Files;
import java.nio.file.Path;
import java.util.Arrays;
import java.util.LinkedHashMap;
import java.util.List;
import java.util.Map;
import java.util.Set;
import java.util.regex.Pattern;

/** The text of ../shared/DOC.md, heading by heading; how its lines are broken is no matter. */
final class Document {
    private static final Path FILE = Path.of("../shared/DOC.md");
    /** The headings inside "Terms" are lines in capitals. */
    private static final Pattern TERM = Pattern.compile("[A-Z]+(, [A-Z]+)*");

    private final Map<String, String> texts = new LinkedHashMap<>();

    Document() throws IOException {
        String heading = "";
        for (String line : Files.readAllLines(FILE)) {
            boolean isHeading = line.startsWith("#") || TERM.matcher(line).matches();
            if (isHeading) {
                heading = line.replaceAll("^#+ *", "").trim();
            }
            String text = texts.getOrDefault(heading, "");
            texts.put(heading, isHeading ? text : onOneLine(text + " " + line));
        }
    }

    Set<String> headings() {
        return texts.keySet();
    }

    /** Whether these words stand under this heading. */
    boolean says(String heading, String words) {
        return texts.getOrDefault(heading, "").contains(onOneLine(words));
    }

    /** What stands under this heading besides all these words. */
    String saysBesides(String heading, List<String> allWords) {
        char[] left = texts.getOrDefault(heading, "").toCharArray();
        for (String words : allWords) {
            String wanted = onOneLine(words);
            int at = texts.getOrDefault(heading, "").indexOf(wanted);
            while (at >= 0 && !wanted.isEmpty()) {
                Arrays.fill(left, at, at + wanted.length(), ' ');
                at = texts.get(heading).indexOf(wanted, at + 1);
            }
        }
        return onOneLine(new String(left));
    }

    private static String onOneLine(String text) {
        return text.replaceAll("\\s+", " ").trim();
    }
}
