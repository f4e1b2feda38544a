import java.io.IOException;
import java.nio.file.Files;
import java.nio.file.Path;
import java.util.LinkedHashMap;
import java.util.Map;
import java.util.regex.Pattern;

/** The text of ../shared/DOC.md, heading by heading. */
final class Document {
    private static final Path FILE = Path.of("../shared/DOC.md");
    private static final Pattern TERM = Pattern.compile("[A-Z]+(, [A-Z]+)*");

    private final Map<String, StringBuilder> texts = new LinkedHashMap<>();

    Document() throws IOException {
        String heading = "";
        for (String line : Files.readAllLines(FILE)) {
            if (line.startsWith("#")) {
                heading = line.replaceAll("^#+ *", "").trim();
            } else if (TERM.matcher(line).matches()) {
                heading = line;
            }
            texts.computeIfAbsent(heading, name -> new StringBuilder()).append(line).append('\n');
        }
    }

    /** Whether these words stand under this heading; how lines are broken is no matter. */
    boolean says(String heading, String words) {
        StringBuilder text = texts.get(heading);
        return text != null && onOneLine(text.toString()).contains(onOneLine(words));
    }

    private static String onOneLine(String text) {
        return text.replaceAll("\\s+", " ").trim();
    }
}
