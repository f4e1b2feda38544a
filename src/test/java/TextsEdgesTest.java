import java.io.IOException;

/** Sentences of TEXTS, and of the promises 8 to 10. */
public final class TextsEdgesTest extends Edges {
    private static final String SEEN_OF_24 = seen(singles(24));

    private TextsEdgesTest() {
    }

    public static void main(String[] args) throws IOException, ReflectiveOperationException {
        runAll(TextsEdgesTest.class);
    }

    /** The text has its fault there, in a toll house where any cart may be named. */
    private static void fault(String text, int place) {
        RopeSeals house = singles(24);
        due("'" + text + "'", Due.perform(house, text), -100 - place);
        house.clearText();
        holds("nothing changed by '" + text + "'", seen(house).equals(SEEN_OF_24));
    }

    private static void allowed(String text, int orders) {
        due("'" + text + "'", Due.perform(singles(23), text), orders);
    }

    /** Orders that change nothing, with ";" between two; each takes three characters. */
    private static String sealOrders(int orders) {
        return "s0;".repeat(orders - 1) + "s0";
    }

    // ---- texts

    @Sentence(under = "TEXTS", says = "There is a text of at most 60 characters")
    static void textsAtMost60Characters() {
        RopeSeals house = singles(11);
        Due.typeAll(house, sealOrders(19) + ";s1");
        due("length", house.total(16), 59);
        due("the 60th", house.type('0'), 60);
        due("the 61st", house.type('0'), FULL);
        due("length", house.total(16), 60);
        due("perform()", house.perform(), 20);
    }

    @Sentence(under = "TEXTS", says = "empty at first")
    static void textsEmptyAtFirst() {
        RopeSeals house = new RopeSeals();
        due("length", house.total(16), 0);
        due("perform()", house.perform(), -100);
        due("clearText()", house.clearText(), 0);
        due("the first character", house.type('c'), 1);
    }

    @Sentence(under = "TEXTS", says = "It is a list of one or more orders with \";\" between two")
    static void textsOneOrMoreOrdersWithSemicolonBetweenTwo() {
        fault("", 0);
        allowed("s0", 1);
        allowed("s0;s0", 2);
        allowed(sealOrders(20), 20);
        fault(";", 0);
        fault(";s0", 0);
        fault("s0;", 3);
        fault("s0;;s0", 3);
        fault("s0s0", 2);
        fault("s0,s0", 2);
        fault("s0 ;s0", 2);
        fault("s0; s0", 3);
        allowed("c1/1;o0;x1=9;s1", 4);
    }

    @Sentence(under = "TEXTS", says = "\"c\", a claim, \"/\", a load, and then perhaps \">\" and a"
            + " cart (a cart comes, and vouches for that one)")
    static void textsACartComesAndPerhapsVouches() {
        RopeSeals house = singles(12);
        due("c0/99>0;c99/0;c7/8>11", Due.perform(house, "c0/99>0;c99/0;c7/8>11"), 3);
        int[][] wants = {{0, 99, 0}, {99, 0, NONE}, {7, 8, 11}};
        for (int i = 0; i < 3; i++) {
            int cart = 12 + i;
            due("claim of " + cart, house.cart(cart, 0), wants[i][0]);
            due("cart " + cart + " vouches for", house.cart(cart, 2), wants[i][2]);
            house.open(cart);
            due("load of " + cart, house.cart(cart, 1), wants[i][1]);
        }
        fault("c/1", 1);
        fault("c1", 2);
        fault("c1>1", 2);
        fault("c1/", 3);
        fault("c1/>1", 3);
        fault("c1/1>", 5);
        fault("c1/1/1", 4);
        fault("c1/1>1>1", 6);
        fault("c1/1>-1", 5);
        fault("C1/1", 0);
    }

    @Sentence(under = "TEXTS", says = "\"o\" and a cart (it is opened)")
    static void textsACartIsOpened() {
        RopeSeals house = singles(24);
        due("o0;o23", Due.perform(house, "o0;o23"), 2);
        due("0 was opened", house.cart(0, 6), 1);
        due("23 was opened", house.cart(23, 6), 1);
        due("opened", house.total(6), 2);
        fault("o", 1);
        fault("o;", 1);
        fault("o=1", 1);
        fault("o1=1", 2);
        fault("O1", 0);
    }

    @Sentence(under = "TEXTS", says = "\"x\", a cart, \"=\" and a claim (its claim is altered; its"
            + " seal stays)")
    static void textsAClaimIsAlteredItsSealStays() {
        RopeSeals house = singles(24);
        int seal = house.cart(23, 3);
        due("x0=99;x23=0", Due.perform(house, "x0=99;x23=0"), 2);
        due("claim of 0", house.cart(0, 0), 99);
        due("claim of 23", house.cart(23, 0), 0);
        due("seal of 23", house.cart(23, 3), seal);
        due("rope of 23", isWhole(house, 23), 0);
        fault("x", 1);
        fault("x=1", 1);
        fault("x1", 2);
        fault("x1/1", 2);
        fault("x1=", 3);
        fault("x1=;", 3);
        fault("x1=1=1", 4);
        fault("X1=1", 0);
    }

    @Sentence(under = "TEXTS", says = "\"s\" and a cart (it gets its right seal)")
    static void textsACartGetsItsRightSeal() {
        RopeSeals house = singles(24);
        house.alter(0, 1);
        house.alter(23, 1);
        due("s0;s23", Due.perform(house, "s0;s23"), 2);
        due("seal of 0", house.cart(0, 3), 31);
        due("seal of 23", house.cart(23, 3), 54);
        due("rope of 23", isWhole(house, 23), 1);
        fault("s", 1);
        fault("s;", 1);
        fault("s1=1", 2);
        fault("S1", 0);
    }

    @Sentence(under = "TEXTS", says = "Claims and loads are 0 to 99, carts 0 to 23")
    static void textsClaimsAndLoadsAre0To99CartsAre0To23() {
        allowed("c0/0", 1);
        allowed("c99/99>0", 1);
        allowed("c24/30>22", 1);
        allowed("x22=99;x0=0;x10=24", 3);
        allowed("o22;s22;o19;s20", 4);
        allowed("c0/0;o23;s23", 3);
        fault("c100/0", 3);
        fault("c0/100", 5);
        fault("x1=100", 5);
        fault("c0/0>24", 6);
        fault("o24", 2);
        fault("s24", 2);
        fault("x24=0", 2);
        fault("c-1/0", 1);
        fault("x1=-1", 3);
        fault("o-1", 1);
    }

    @Sentence(under = "TEXTS", says = "numbers have no zeros ahead of other digits")
    static void textsNoZerosAheadOfOtherDigits() {
        fault("c00/1", 2);
        fault("c05/1", 2);
        fault("c1/00", 4);
        fault("c1/09", 4);
        fault("c1/1>00", 6);
        fault("c1/1>01", 6);
        fault("o00", 2);
        fault("o01", 2);
        fault("x03=1", 2);
        fault("x3=01", 4);
        fault("s09", 2);
        allowed("c10/20>0;s10;s20", 3);
    }

    @Sentence(under = "TEXTS", says = "a digit by which a number would be too great is not allowed")
    static void textsADigitByWhichANumberWouldBeTooGreat() {
        fault("c990/1", 3);
        fault("c10000000000/1", 3);
        fault("c1/999", 5);
        fault("c1/1>24", 6);
        fault("c1/1>30", 6);
        fault("c1/1>99", 6);
        fault("c1/1>100", 7);
        fault("c1/1>230", 7);
        fault("o29", 2);
        fault("o230", 3);
        fault("s40", 2);
        fault("s123", 3);
        fault("x30=1", 2);
        fault("x23=100", 6);
    }

    @Sentence(under = "TEXTS", says = "The fault of the text is the index, from 0, of the first"
            + " character that is not allowed at its place")
    static void textsFaultIsTheFirstCharacterThatIsNotAllowed() {
        fault("?", 0);
        fault("1", 0);
        fault("s?", 1);
        fault("s0?", 2);
        fault("s0;?", 3);
        fault("s0;o?;?", 4);
        fault("s0;s0;c5-5", 8);
        fault("?s0;o", 0);
        fault(sealOrders(19) + ";s?", 58);
        fault(sealOrders(20) + "?", 59);
        fault("s" + (char) 0x661, 1);
        fault((char) ('s' + 256) + "0", 0);
        fault("s" + (char) ('0' + 256), 1);
        fault("s0" + (char) 0, 2);
        fault("s0\n", 2);
    }

    @Sentence(under = "TEXTS", says = "or the length of the text if it ends too early (the empty"
            + " text does)")
    static void textsFaultIsTheLengthIfItEndsTooEarly() {
        String[] tooShort = {
            "", "c", "c5", "c5/", "c5/5>", "o", "x", "x5", "x5=", "s", "c5/5;", "s0;s"};
        for (String text : tooShort) {
            fault(text, text.length());
        }
        fault(sealOrders(19) + ";s0;", 60);
        fault(sealOrders(19) + ";x1=", 60);
    }

    // ---- promise 8

    @Sentence(under = "Promise 8: type", says = "Appends a character to the text.")
    static void promise8AppendsACharacter() {
        RopeSeals house = singles(13);
        house.type('o');
        house.type('1');
        due("o1", house.perform(), 1);
        house.type('2');
        due("o12", house.perform(), 1);
        due("1 was opened", house.cart(1, 6), 1);
        due("12 was opened", house.cart(12, 6), 1);
    }

    @Sentence(under = "Promise 8: type", says = "any character")
    static void promise8AnyCharacter() {
        RopeSeals house = new RopeSeals();
        int length = 0;
        int[] numbers = {0, 10, 32, 127, 128, 255, 256, 0xD800, 0xFFFF};
        for (int number : numbers) {
            length++;
            due("type of " + number, house.type((char) number), length);
        }
        due("perform()", house.perform(), -100);
    }

    @Sentence(under = "Promise 8: type", says = "Returns the length of the text then")
    static void promise8ReturnsTheLengthThen() {
        RopeSeals house = new RopeSeals();
        for (int length = 1; length <= 60; length++) {
            due("type, number " + length, house.type(';'), length);
        }
        house.clearText();
        due("type, after clearText()", house.type(';'), 1);
    }

    @Sentence(under = "Promise 8: type", says = "FULL if it has 60 characters")
    static void promise8FullIfItHas60Characters() {
        RopeSeals house = singles(11);
        Due.typeAll(house, sealOrders(19) + ";s1");
        due("type('0'), the 60th", house.type('0'), 60);
        due("type('?'), the 61st", house.type('?'), FULL);
        due("type(';'), the 61st", house.type(';'), FULL);
        due("perform(), of the 60 alone", house.perform(), 20);
        due("clearText()", house.clearText(), 60);
        due("type('o')", house.type('o'), 1);
        due("type('1')", house.type('1'), 2);
        due("perform()", house.perform(), 1);
    }

    // ---- promise 9

    @Sentence(under = "Promise 9: clearText", says = "Empties the text.")
    static void promise9EmptiesTheText() {
        RopeSeals house = singles(3);
        Due.typeAll(house, "o1");
        house.clearText();
        due("length", house.total(16), 0);
        due("perform()", house.perform(), -100);
        house.type('o');
        due("perform(), nothing is left of the old text", house.perform(), -101);
    }

    @Sentence(under = "Promise 9: clearText", says = "Returns the length that it had.")
    static void promise9ReturnsTheLengthThatItHad() {
        RopeSeals house = new RopeSeals();
        due("an empty text", house.clearText(), 0);
        house.type('?');
        due("one character", house.clearText(), 1);
        due("again", house.clearText(), 0);
        for (int i = 0; i < 61; i++) {
            house.type('?');
        }
        due("a full text", house.clearText(), 60);
    }

    // ---- promise 10

    @Sentence(under = "Promise 10: perform", says = "Carries out the orders of the text, which"
            + " stays, one after the other")
    static void promise10TheTextStays() {
        RopeSeals house = new RopeSeals();
        Due.typeAll(house, "c3/3");
        due("perform()", house.perform(), 1);
        due("length", house.total(16), 4);
        due("perform(), again", house.perform(), 1);
        due("carts", house.total(5), 2);
        Due.typeAll(house, "o9");
        due("perform(), an error", house.perform(), UNKNOWN);
        due("length", house.total(16), 2);
        Due.typeAll(house, "o?");
        due("perform(), a fault", house.perform(), -101);
        due("length", house.total(16), 2);
    }

    @Sentence(under = "Promise 10: perform", says = "one after the other")
    static void promise10OneAfterTheOther() {
        RopeSeals house = new RopeSeals();
        due("perform()", Due.perform(house, "c5/5;c6/6>0;x1=7;s1;x1=6;s1;o1"), 7);
        due("1 is honest", isCleared(house, 1), 1);
        due("0 is cleared through the rope", isCleared(house, 0), 1);
        due("fines", house.total(11), 0);
        due("the other way around", Due.perform(new RopeSeals(), "c6/6>0;c5/5"), UNKNOWN);
    }

    @Sentence(under = "Promise 10: perform", says = "all of them, or none if one of them returns"
            + " an error")
    static void promise10AllOrNone() {
        RopeSeals house = chainOf(3);
        house.come(9, 1, 2);
        house.alter(1, 8);
        String before = seen(house);
        String[] orders = {"o3;c1/1>3;x0=5;s1;o9", "o2;s1;x0=5;o2", "c1/1;x4=5;x4=6;o4;x4=7"};
        int[] errors = {UNKNOWN, NOT_POSSIBLE, NOT_POSSIBLE};
        for (int i = 0; i < orders.length; i++) {
            due("'" + orders[i] + "'", Due.perform(house, orders[i]), errors[i]);
            house.clearText();
            holds("nothing changed by '" + orders[i] + "'", seen(house).equals(before));
        }
        house = singles(23);
        due("one has room, the other has not", Due.perform(house, "c1/1;c1/1"), FULL);
        due("carts", house.total(5), 23);
        due("tolls", house.total(10), 22 * 23 / 2);
        due("undo(), the last cart came by come", house.undo(), 3);
        due("carts", house.total(5), 22);
    }

    @Sentence(under = "Promise 10: perform", says = "one that returns NONE changes nothing, and the"
            + " next one follows")
    static void promise10OneThatReturnsNoneChangesNothing() {
        RopeSeals house = chainOf(3);
        due("NONE ahead of others", Due.perform(house, "s0;x1=1;o2"), 3);
        due("the next one followed", house.cart(2, 6), 1);
        due("claim", house.cart(1, 0), 1);
        due("NONE between others", Due.perform(house, "x1=5;x1=5;s0;s1"), 4);
        due("the next one followed", isWhole(house, 1), 1);
        due("NONE at the end", Due.perform(house, "x0=5;x0=5"), 2);
        due("claim", house.cart(0, 0), 5);
        due("NONE and then an error", Due.perform(house, "x0=5;o3"), UNKNOWN);
    }

    @Sentence(under = "Promise 10: perform", says = "This is one change.")
    static void promise10IsOneChange() {
        RopeSeals house = new RopeSeals();
        Due.perform(house, "c5/5;c6/6>0;c7/7;x0=9;s0");
        due("states after five orders", states(house), 1);
        due("undo()", house.undo(), 0);
        due("carts", house.total(5), 0);
        Due.perform(house, "c5/5");
        Due.perform(house, "s0");
        due("states after an order that returns NONE, as perform does not", states(house), 2);
        due("undo()", house.undo(), 1);
        due("carts", house.total(5), 1);
    }

    @Sentence(under = "Promise 10: perform", says = "Returns how many orders the text has")
    static void promise10ReturnsHowManyOrdersTheTextHas() {
        for (int orders = 1; orders <= 20; orders++) {
            due(orders + " orders that return NONE",
                    Due.perform(singles(1), sealOrders(orders)), orders);
        }
        RopeSeals house = singles(12);
        due("20 orders in 60 characters", Due.perform(house, sealOrders(19) + ";s11"), 20);
        due("one long order", Due.perform(house, "c99/99>11"), 1);
        due("orders that answer 0", Due.perform(house, "x0=1;x0=0"), 2);
    }

    @Sentence(under = "Promise 10: perform", says = "-100 minus the fault of the text if it has one"
            + " (this is an error)")
    static void promise10Minus100MinusTheFault() {
        RopeSeals house = chainOf(2);
        String before = seen(house);
        due("a fault at 0", house.perform(), -100);
        due("a fault behind good orders", Due.perform(house, "x0=9;o1;s"), -109);
        due("a fault at 60", Due.perform(house, sealOrders(20) + ";"), -160);
        house.clearText();
        holds("nothing changed", seen(house).equals(before));
    }

    @Sentence(under = "Promise 10: perform", says = "otherwise the error of the first order that"
            + " returns one")
    static void promise10TheErrorOfTheFirstOrderThatReturnsOne() {
        RopeSeals house = singles(24);
        house.open(5);
        String[] orders = {"o5", "x5=9", "x5=5", "c1/1", "c1/1>23"};
        int[] errors = {NOT_POSSIBLE, NOT_POSSIBLE, NOT_POSSIBLE, FULL, FULL};
        for (int i = 0; i < orders.length; i++) {
            due(orders[i], Due.perform(house, orders[i]), errors[i]);
        }
        due("NOT_POSSIBLE, then FULL", Due.perform(house, "o4;o5;c1/1"), NOT_POSSIBLE);
        due("FULL, then NOT_POSSIBLE", Due.perform(house, "o4;c1/1;o5"), FULL);
        house = singles(2);
        String[] unknown = {"o2", "s2", "x2=9", "c1/1>2", "o23"};
        for (String order : unknown) {
            due(order, Due.perform(house, order), UNKNOWN);
        }
        due("UNKNOWN, then NOT_POSSIBLE", Due.perform(house, "o1;o2;o1"), UNKNOWN);
        due("NOT_POSSIBLE, then UNKNOWN", Due.perform(house, "o1;o1;o2"), NOT_POSSIBLE);
    }

    @Sentence(under = "Promise 10: perform", says = "Returns how many orders the text has; -100"
            + " minus the fault of the text if it has one (this is an error); otherwise the error"
            + " of the first order that returns one.")
    static void promise10OrderOfErrors() {
        RopeSeals house = singles(24);
        house.open(5);
        due("UNKNOWN and a fault", Due.perform(new RopeSeals(), "o7;o"), -104);
        due("NOT_POSSIBLE and a fault", Due.perform(house, "o5;"), -103);
        due("FULL and a fault", Due.perform(house, "c1/1?"), -104);
    }
}
