import java.io.IOException;
import java.lang.reflect.InvocationTargetException;
import java.lang.reflect.Method;
import java.util.Arrays;
import java.util.Comparator;

/**
 * What the tests of single sentences share. Each of them is a method that bears a
 * Sentence; runAll finds them all, so that none is forgotten.
 */
abstract class Edges {
    static final int UNKNOWN = -1;
    static final int OUT_OF_RANGE = -2;
    static final int FULL = -3;
    static final int NOT_POSSIBLE = -4;
    static final int NONE = -5;
    static final int LEAST = Integer.MIN_VALUE;
    static final int GREATEST = Integer.MAX_VALUE;
    /** No carts of a toll house with two; 32 is there as a shift by 32 is none. */
    static final int[] NOT_OF_TWO = {2, -1, 24, 32, LEAST, GREATEST};

    private static String test = "";

    static void due(String call, long got, long want) {
        Due.due(test + ": " + call, got, want);
    }

    static void holds(String what, boolean so) {
        Due.holds(test + ": " + what, so);
    }

    /** Runs every test of a class; one whose sentence is not in the document fails. */
    static void runAll(Class<? extends Edges> tests)
            throws IOException, ReflectiveOperationException {
        Document document = new Document();
        Method[] methods = tests.getDeclaredMethods();
        Arrays.sort(methods, Comparator.comparing(Method::getName));
        for (Method method : methods) {
            Sentence sentence = method.getAnnotation(Sentence.class);
            if (sentence != null) {
                test = method.getName();
                holds("stands under '" + sentence.under() + "': " + sentence.says(),
                        document.says(sentence.under(), sentence.says()));
                holds("is named after " + sentence.under(), isNamedAfter(sentence.under()));
                call(method);
            }
        }
        Due.finish();
    }

    /** Promise 2 has tests named promise2.., CARTS has some named carts.. . */
    private static boolean isNamedAfter(String heading) {
        String start = heading.split("[:,]")[0].replace(" ", "");
        String name = test.substring(0, Math.min(start.length(), test.length()));
        boolean goesOn = test.length() > start.length()
                && !Character.isDigit(test.charAt(start.length()));
        return name.equalsIgnoreCase(start) && goesOn;
    }

    private static void call(Method method) throws ReflectiveOperationException {
        int before = Due.asked();
        try {
            method.invoke(null);
        } catch (InvocationTargetException thrown) {
            holds("threw " + thrown.getCause(), false);
        }
        holds("looks at an answer", Due.asked() > before);
    }

    // ---- toll houses to start from

    /** Honest carts, each vouching for the one ahead of it; cart n claims n sacks. */
    static RopeSeals chainOf(int carts) {
        RopeSeals house = new RopeSeals();
        for (int cart = 0; cart < carts; cart++) {
            house.come(cart, cart, cart - 1);
        }
        return house;
    }

    /** Honest carts that vouch for none; cart n claims n sacks. */
    static RopeSeals singles(int carts) {
        RopeSeals house = new RopeSeals();
        for (int cart = 0; cart < carts; cart++) {
            house.come(cart, cart, -1);
        }
        return house;
    }

    /** Changes a claim, so that the rope of the cart is not whole any more. */
    static void breakRope(RopeSeals house, int cart) {
        house.alter(cart, house.cart(cart, 0) + 1);
    }

    static int isWhole(RopeSeals house, int cart) {
        return house.cart(cart, 5);
    }

    static int isCleared(RopeSeals house, int cart) {
        return house.cart(cart, 7);
    }

    static int fines(RopeSeals house, int cart) {
        return house.cart(cart, 8);
    }

    static int states(RopeSeals house) {
        return house.total(15);
    }

    /** All that can be seen of the state. */
    static String stateOf(RopeSeals house) {
        StringBuilder all = new StringBuilder();
        for (int what = 0; what <= 14; what++) {
            all.append(house.total(what)).append(' ');
        }
        for (int cart = 0; cart < house.total(5); cart++) {
            for (int what = 0; what <= 12; what++) {
                all.append(house.cart(cart, what)).append(' ');
            }
        }
        return all.toString();
    }

    /** The state, and how long the history and the text are. */
    static String seen(RopeSeals house) {
        return stateOf(house) + states(house) + ' ' + house.total(16);
    }
}
