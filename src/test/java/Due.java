/** Counts the answers that are not as due; a test ends by calling finish(). */
final class Due {
    private static int asked = 0;
    private static int wrong = 0;

    private Due() {
    }

    /** Checks an answer. */
    static void due(String call, long got, long want) {
        asked++;
        if (got != want) {
            wrong++;
            System.out.println(call + " answered " + got + ", due is " + want);
        }
    }

    /** How many answers were looked at so far. */
    static int asked() {
        return asked;
    }

    /** Checks that something holds. */
    static void holds(String what, boolean so) {
        due(what, so ? 1 : 0, 1);
    }

    /** Types a text, after emptying the one that was there. */
    static void typeAll(RopeSeals house, String text) {
        house.clearText();
        for (int i = 0; i < text.length(); i++) {
            house.type(text.charAt(i));
        }
    }

    /** Types a text and performs it. */
    static int perform(RopeSeals house, String text) {
        typeAll(house, text);
        return house.perform();
    }

    static void finish() {
        System.out.println(asked + " answers looked at, " + wrong + " not as due");
        if (wrong != 0 || asked == 0) {
            System.exit(1);
        }
    }
}
