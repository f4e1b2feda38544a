import java.io.IOException;
import java.util.LinkedHashMap;
import java.util.Map;
import java.util.function.ToIntFunction;

/** Sentences of ERRORS. */
public final class ErrorsEdgesTest extends Edges {
    private ErrorsEdgesTest() {
    }

    public static void main(String[] args) throws IOException, ReflectiveOperationException {
        runAll(ErrorsEdgesTest.class);
    }

    /** Full of carts; 23 was opened and is honest, 22 was opened and lies. */
    private static RopeSeals busyHouse() {
        RopeSeals house = new RopeSeals();
        for (int cart = 0; cart < 22; cart++) {
            house.come(cart, cart, cart % 3 - 1 < cart ? cart % 3 - 1 : -1);
        }
        house.come(9, 1, 21);
        house.come(8, 8, 21);
        house.open(22);
        house.open(23);
        house.alter(5, 50);
        Due.typeAll(house, "s0;o1;x2=2;o23" + "?".repeat(46));
        return house;
    }

    private static Map<String, ToIntFunction<RopeSeals>> refusedCalls() {
        Map<String, ToIntFunction<RopeSeals>> calls = new LinkedHashMap<>();
        calls.put("come(1, 1, 24)", house -> house.come(1, 1, 24));
        calls.put("come(100, 1, 0)", house -> house.come(100, 1, 0));
        calls.put("come(1, 1, 0)", house -> house.come(1, 1, 0));
        calls.put("alter(24, 1)", house -> house.alter(24, 1));
        calls.put("alter(1, 100)", house -> house.alter(1, 100));
        calls.put("alter(23, 1)", house -> house.alter(23, 1));
        calls.put("alter(1, 1)", house -> house.alter(1, 1));
        calls.put("reseal(24)", house -> house.reseal(24));
        calls.put("reseal(1)", house -> house.reseal(1));
        calls.put("open(24)", house -> house.open(24));
        calls.put("open(22)", house -> house.open(22));
        calls.put("set(5, 1)", house -> house.set(5, 1));
        calls.put("set(0, 100)", house -> house.set(0, 100));
        calls.put("set(0, 31)", house -> house.set(0, 31));
        calls.put("type('?')", house -> house.type('?'));
        calls.put("perform()", house -> house.perform());
        calls.put("restore()", house -> house.restore());
        calls.put("cart(24, 0)", house -> house.cart(24, 0));
        calls.put("cart(0, 13)", house -> house.cart(0, 13));
        calls.put("cart(0, 1)", house -> house.cart(0, 1));
        calls.put("chain(24, 0)", house -> house.chain(24, 0));
        calls.put("chain(0, -1)", house -> house.chain(0, -1));
        calls.put("chain(0, 24)", house -> house.chain(0, 24));
        calls.put("brokenIn(24)", house -> house.brokenIn(24));
        calls.put("brokenIn(0)", house -> house.brokenIn(0));
        calls.put("total(17)", house -> house.total(17));
        calls.put("ifOpened(24, 0)", house -> house.ifOpened(24, 0));
        calls.put("ifOpened(0, 3)", house -> house.ifOpened(0, 3));
        calls.put("ifOpened(23, 0)", house -> house.ifOpened(23, 0));
        calls.put("fewestOpenings(2)", house -> house.fewestOpenings(2));
        calls.put("sameSeal(24)", house -> house.sameSeal(24));
        return calls;
    }

    @Sentence(under = "ERRORS", says = "A method that returns an error or NONE changes nothing.")
    static void errorsAMethodThatReturnsOneChangesNothing() {
        String before = seen(busyHouse());
        int performed = busyHouse().perform();
        for (Map.Entry<String, ToIntFunction<RopeSeals>> call : refusedCalls().entrySet()) {
            String name = call.getKey();
            RopeSeals house = busyHouse();
            holds(name + " is refused", call.getValue().applyAsInt(house) < 0);
            holds(name + " changes nothing", seen(house).equals(before));
            house = busyHouse();
            call.getValue().applyAsInt(house);
            due("the text after " + name, house.perform(), performed);
            due("the snapshot after " + name, house.restore(), NONE);
        }
    }

    @Sentence(under = "ERRORS", says = "A method that returns an error or NONE changes nothing.")
    static void errorsAMethodThatReturnsOneKeepsTheHistory() {
        for (int undone = 1; undone <= 4; undone++) {
            String old = seen(undone(busyHouse(), undone));
            for (Map.Entry<String, ToIntFunction<RopeSeals>> call : refusedCalls().entrySet()) {
                RopeSeals house = busyHouse();
                call.getValue().applyAsInt(house);
                holds("undo(), " + undone + " times, after " + call.getKey(),
                        seen(undone(house, undone)).equals(old));
            }
        }
    }

    private static RopeSeals undone(RopeSeals house, int times) {
        for (int i = 0; i < times; i++) {
            house.undo();
        }
        return house;
    }

    @Sentence(under = "ERRORS", says = "A method that returns an error or NONE changes nothing.")
    static void errorsNoneOfOpenAllUndoBestOpeningChangesNothing() {
        RopeSeals house = new RopeSeals();
        String before = seen(house);
        due("openAll()", house.openAll(), NONE);
        due("undo()", house.undo(), NONE);
        due("restore()", house.restore(), NONE);
        due("bestOpening()", house.bestOpening(), NONE);
        due("perform()", house.perform(), -100);
        holds("nothing changed", seen(house).equals(before));
    }

    @Sentence(under = "ERRORS", says = "If several errors apply, the one that stands first in the"
            + " @return line is returned.")
    static void errorsTheOneThatStandsFirstIsReturned() {
        RopeSeals house = busyHouse();
        due("come: UNKNOWN, OUT_OF_RANGE, FULL", house.come(-1, 100, 24), UNKNOWN);
        due("come: OUT_OF_RANGE, FULL", house.come(-1, 100, 23), OUT_OF_RANGE);
        due("alter: UNKNOWN, OUT_OF_RANGE", house.alter(24, 100), UNKNOWN);
        due("alter: OUT_OF_RANGE, NOT_POSSIBLE", house.alter(23, 100), OUT_OF_RANGE);
        due("set: UNKNOWN, OUT_OF_RANGE", house.set(5, 1000), UNKNOWN);
        due("perform: a fault, UNKNOWN", Due.perform(house, "o24"), -102);
        due("perform: a fault, NOT_POSSIBLE", Due.perform(house, "o23;"), -104);
        due("perform: NOT_POSSIBLE, FULL", Due.perform(house, "o23;c1/1"), NOT_POSSIBLE);
        due("perform: FULL, NOT_POSSIBLE", Due.perform(house, "c1/1;o23"), FULL);
        due("cart: UNKNOWN, OUT_OF_RANGE", house.cart(24, 13), UNKNOWN);
        due("chain: UNKNOWN, OUT_OF_RANGE", house.chain(24, -1), UNKNOWN);
        due("ifOpened: UNKNOWN, OUT_OF_RANGE", house.ifOpened(24, 3), UNKNOWN);
        due("ifOpened: OUT_OF_RANGE, NOT_POSSIBLE", house.ifOpened(23, 3), OUT_OF_RANGE);
    }

    @Sentence(under = "ERRORS", says = "NONE is not an error; it is returned only if no error"
            + " applies.")
    static void errorsNoneIsReturnedOnlyIfNoErrorApplies() {
        RopeSeals house = busyHouse();
        due("alter of an opened one to its claim", house.alter(23, 8), NOT_POSSIBLE);
        due("reseal of no cart", house.reseal(24), UNKNOWN);
        due("restore without a snapshot", house.restore(), NONE);
        due("cart(24, 1), the load of no cart", house.cart(24, 1), UNKNOWN);
        due("cart(24, 2), for which no cart vouches", house.cart(24, 2), UNKNOWN);
        due("chain(24, 24)", house.chain(24, 24), UNKNOWN);
        due("brokenIn(24)", house.brokenIn(24), UNKNOWN);
        due("sameSeal(24)", house.sameSeal(24), UNKNOWN);
        due("perform, an order that returns NONE ahead of one", Due.perform(house, "s0;o2"), 2);
    }

    @Sentence(under = "ERRORS", says = "If several errors apply, the one that stands first in the"
            + " @return line is returned. NONE is not an error; it is returned only if no error"
            + " applies.")
    static void errorsACallThatNamesAnUnknownCartAnswersUnknownWhateverElseIsSo() {
        RopeSeals opened = chainOf(2);
        opened.open(0);
        opened.open(1);
        RopeSeals altered = chainOf(2);
        breakRope(altered, 0);
        breakRope(altered, 1);
        for (RopeSeals house : new RopeSeals[] {chainOf(2), opened, altered}) {
            for (int cart : NOT_OF_TWO) {
                askAboutUnknown(house, cart);
            }
        }
        for (int cart : new int[] {24, -1, 32, LEAST, GREATEST}) {
            askAboutUnknown(busyHouse(), cart);
        }
        for (int cart : new int[] {0, 1, -1, LEAST, GREATEST}) {
            askAboutUnknown(new RopeSeals(), cart);
        }
    }

    /** Asks with other arguments that are in their range, and with some that are not. */
    private static void askAboutUnknown(RopeSeals house, int cart) {
        due("reseal(" + cart + ")", house.reseal(cart), UNKNOWN);
        due("open(" + cart + ")", house.open(cart), UNKNOWN);
        due("brokenIn(" + cart + ")", house.brokenIn(cart), UNKNOWN);
        due("sameSeal(" + cart + ")", house.sameSeal(cart), UNKNOWN);
        for (int other : new int[] {0, 1, 2, 12, 99, 13, 100, -1, LEAST, GREATEST}) {
            due("alter(" + cart + ", " + other + ")", house.alter(cart, other), UNKNOWN);
            due("cart(" + cart + ", " + other + ")", house.cart(cart, other), UNKNOWN);
            due("chain(" + cart + ", " + other + ")", house.chain(cart, other), UNKNOWN);
            due("ifOpened(" + cart + ", " + other + ")", house.ifOpened(cart, other), UNKNOWN);
            if (cart != -1) {
                due("come(" + other + ", 0, " + cart + ")", house.come(other, 0, cart), UNKNOWN);
                due("come(0, " + other + ", " + cart + ")", house.come(0, other, cart), UNKNOWN);
            }
        }
    }

    @Sentence(under = "ERRORS", says = "`UNKNOWN = -1`: There is no such cart or setting.")
    static void errorsUnknownIsMinus1() {
        due("UNKNOWN", RopeSeals.UNKNOWN, -1);
        due("no such cart", chainOf(1).reseal(1), -1);
        due("no such setting", new RopeSeals().set(5, 1), -1);
    }

    @Sentence(under = "ERRORS", says = "`OUT_OF_RANGE = -2`: Another argument is out of its range.")
    static void errorsOutOfRangeIsMinus2() {
        due("OUT_OF_RANGE", RopeSeals.OUT_OF_RANGE, -2);
        due("another argument", chainOf(1).alter(0, 100), -2);
    }

    @Sentence(under = "ERRORS", says = "`FULL = -3`: There is no more room.")
    static void errorsFullIsMinus3() {
        due("FULL", RopeSeals.FULL, -3);
        due("no more room", singles(24).come(1, 1, -1), -3);
    }

    @Sentence(under = "ERRORS", says = "`NOT_POSSIBLE = -4`: This is not possible in the present"
            + " state.")
    static void errorsNotPossibleIsMinus4() {
        due("NOT_POSSIBLE", RopeSeals.NOT_POSSIBLE, -4);
        RopeSeals house = chainOf(1);
        house.open(0);
        due("in the present state", house.open(0), -4);
        house.undo();
        due("in another state", house.open(0), 1);
    }

    @Sentence(under = "ERRORS", says = "`NONE = -5`: There is no such thing; this is not an error.")
    static void errorsNoneIsMinus5() {
        due("NONE", RopeSeals.NONE, -5);
        due("no such thing", new RopeSeals().bestOpening(), -5);
    }

    @Sentence(under = "ERRORS", says = "Ahead of the calls `ifOpened`, `fewestOpenings`,"
            + " `bestOpening`, `sameSeal` the interface says: ---- what would be; nothing changes.")
    static void errorsOfWhatWouldBeNothingChanges() {
        String before = seen(busyHouse());
        RopeSeals house = busyHouse();
        house.ifOpened(21, 0);
        house.ifOpened(21, 1);
        house.ifOpened(21, 2);
        house.fewestOpenings(0);
        house.fewestOpenings(1);
        house.bestOpening();
        house.sameSeal(21);
        holds("nothing changed", seen(house).equals(before));
    }

    @Sentence(under = "What it is", says = "An object is used for at most 512 calls after it has"
            + " been made")
    static void whatItIsUsedForAtMost512Calls() {
        RopeSeals house = new RopeSeals();
        for (int calls = 0; calls < 511; calls++) {
            house.set(2, 10 + calls);
        }
        due("the 512th call", house.total(2), 520);
    }
}
