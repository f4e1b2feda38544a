import java.io.IOException;
import java.lang.reflect.Field;
import java.lang.reflect.Method;
import java.lang.reflect.Modifier;
import java.nio.file.Files;
import java.nio.file.Path;
import java.util.regex.MatchResult;
import java.util.regex.Matcher;
import java.util.regex.Pattern;
import javax.tools.ToolProvider;

/** README.md names the whole face, and its examples answer what they say. */
public final class ReadmeTest {
    private static final Path README = Path.of("README.md");
    private static final String EXAMPLES = "ReadmeExamples";
    private static final Pattern EXAMPLE = Pattern.compile("(?s)```java\n(.*?)```");
    /** Such as: int second = house.come(7, 7, first);  // 1: and some words. */
    private static final Pattern ANSWER = Pattern.compile(
            "(?m)^(?:int (\\w+) = )?(\\w+\\.\\w+\\(.*\\)); *// (-?\\d+|[A-Z_]+):.*$");

    private static final Pattern UNREAD_ANSWER = Pattern.compile("\\w\\.\\w+\\(.*\\); *//");

    private ReadmeTest() {
    }

    public static void main(String[] args) throws IOException, ReflectiveOperationException {
        String readme = Files.readString(README);
        checkNames(readme);
        String code = codeOf(readme);
        Due.holds("each answer is looked at", !UNREAD_ANSWER.matcher(code).find());
        compile(code);
        int before = Due.asked();
        Class.forName(EXAMPLES).getMethod("run").invoke(null);
        Due.holds("the examples tell answers", Due.asked() > before);
        Due.finish();
    }

    private static void checkNames(String readme) {
        for (Method method : RopeSeals.class.getMethods()) {
            if (method.getDeclaringClass() == RopeSeals.class) {
                String row = "| `" + method.getName() + "(";
                Due.holds("there is a row " + row, readme.contains(row));
            }
        }
        for (Field field : RopeSeals.class.getFields()) {
            String row = "| `" + field.getName() + "` |";
            Due.holds("there is a row " + row, readme.contains(row));
        }
    }

    /** The examples go on from one another, so they become one method. */
    private static String codeOf(String readme) {
        StringBuilder code = new StringBuilder("public final class " + EXAMPLES + " {\n");
        for (Field field : RopeSeals.class.getFields()) {
            String name = field.getName();
            code.append("static final int " + name + " = RopeSeals." + name + ";\n");
        }
        code.append("public static void run() {\n");
        Matcher example = EXAMPLE.matcher(readme);
        while (example.find()) {
            code.append(ANSWER.matcher(example.group(1)).replaceAll(ReadmeTest::withAnswer));
        }
        return code.append("}\n}\n").toString();
    }

    private static String withAnswer(MatchResult line) {
        String call = line.group(2);
        String kept = line.group(1) == null ? "answer" : line.group(1);
        String check = "int " + kept + " = " + call + ";"
                + " Due.due(\"README: " + call.replace('"', '\'') + "\", " + kept + ", "
                + line.group(3) + ");";
        return Matcher.quoteReplacement(line.group(1) == null ? "{ " + check + " }" : check);
    }

    /** Compiles to where this test stands, so that the examples find the other classes. */
    private static void compile(String code) throws IOException {
        Path folder = Path.of(ReadmeTest.class.getProtectionDomain().getCodeSource().getLocation()
                .getPath());
        Path file = folder.resolve(EXAMPLES + ".java");
        Files.writeString(file, code);
        int result = ToolProvider.getSystemJavaCompiler().run(null, null, null,
                "-d", folder.toString(), "-cp", folder.toString(), file.toString());
        Due.due("compiling the examples", result, 0);
    }
}
