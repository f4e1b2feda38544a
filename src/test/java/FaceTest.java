import java.lang.reflect.Field;
import java.lang.reflect.Method;
import java.lang.reflect.Modifier;
import java.util.Arrays;
import java.util.Set;
import java.util.TreeSet;

/** The face of the class: what the document lists, and nothing else. */
public final class FaceTest {
    private static final Set<String> METHODS = new TreeSet<>(Arrays.asList(
            "int come(int,int,int)", "int alter(int,int)", "int reseal(int)", "int open(int)",
            "int openAll()", "int set(int,int)", "int type(char)", "int clearText()",
            "int perform()", "int undo()", "int keep()", "int restore()", "int cart(int,int)",
            "int chain(int,int)", "int brokenIn(int)", "int total(int)", "int ifOpened(int,int)",
            "int fewestOpenings(int)", "int bestOpening()", "int sameSeal(int)"));

    private FaceTest() {
    }

    public static void main(String[] args) {
        Due.due("UNKNOWN", RopeSeals.UNKNOWN, -1);
        Due.due("OUT_OF_RANGE", RopeSeals.OUT_OF_RANGE, -2);
        Due.due("FULL", RopeSeals.FULL, -3);
        Due.due("NOT_POSSIBLE", RopeSeals.NOT_POSSIBLE, -4);
        Due.due("NONE", RopeSeals.NONE, -5);
        Due.holds("the class is public and final",
                Modifier.isPublic(RopeSeals.class.getModifiers())
                        && Modifier.isFinal(RopeSeals.class.getModifiers()));
        Due.due("constructors", RopeSeals.class.getDeclaredConstructors().length, 1);
        Due.due("public constructors", RopeSeals.class.getConstructors().length, 1);
        checkMethods();
        checkFields();
        for (Class<?> inside : RopeSeals.class.getDeclaredClasses()) {
            Due.holds(inside + " is static", Modifier.isStatic(inside.getModifiers()));
            Due.holds(inside + " is not public", !Modifier.isPublic(inside.getModifiers()));
        }
        Due.finish();
    }

    private static void checkMethods() {
        Set<String> open = new TreeSet<>();
        Set<String> openNames = new TreeSet<>();
        for (Method method : RopeSeals.class.getDeclaredMethods()) {
            if (!Modifier.isPrivate(method.getModifiers())) {
                open.add(written(method));
                openNames.add(method.getName());
            }
        }
        Due.holds("methods are " + open, open.equals(METHODS));
        for (Method method : RopeSeals.class.getDeclaredMethods()) {
            if (Modifier.isPrivate(method.getModifiers())) {
                Due.holds(method + " bears no name of the face",
                        !openNames.contains(method.getName()));
            }
        }
    }

    private static void checkFields() {
        Set<String> open = new TreeSet<>();
        for (Field field : RopeSeals.class.getDeclaredFields()) {
            if (!Modifier.isPrivate(field.getModifiers())) {
                open.add(field.getName());
            }
        }
        Set<String> constants = new TreeSet<>(
                Arrays.asList("UNKNOWN", "OUT_OF_RANGE", "FULL", "NOT_POSSIBLE", "NONE"));
        Due.holds("constants are " + open, open.equals(constants));
    }

    private static String written(Method method) {
        StringBuilder text = new StringBuilder();
        text.append(method.getReturnType()).append(' ').append(method.getName()).append('(');
        String comma = "";
        for (Class<?> type : method.getParameterTypes()) {
            text.append(comma).append(type);
            comma = ",";
        }
        return text.append(')').toString();
    }
}
