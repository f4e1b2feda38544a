import java.io.IOException;

/** Sentences of CARTS, ROPES, SEALS and SETTINGS, and of the promises 1 to 4 and 7. */
public final class ChangesEdgesTest extends Edges {
    private ChangesEdgesTest() {
    }

    public static void main(String[] args) throws IOException, ReflectiveOperationException {
        runAll(ChangesEdgesTest.class);
    }

    // ---- carts

    @Sentence(under = "CARTS", says = "At most 24 carts come, numbered from 0.")
    static void cartsAtMost24ComeNumberedFrom0() {
        RopeSeals house = new RopeSeals();
        for (int cart = 0; cart < 24; cart++) {
            due("cart " + cart + " comes", house.come(1, 1, -1), cart);
        }
        due("the 25th comes", house.come(1, 1, -1), FULL);
        due("carts", house.total(5), 24);
        due("cart(23, 0)", house.cart(23, 0), 1);
        due("cart(24, 0)", house.cart(24, 0), UNKNOWN);
    }

    @Sentence(under = "CARTS", says = "A cart claims some sacks (0 to 99)")
    static void cartsClaim0To99() {
        RopeSeals house = new RopeSeals();
        due("come(-1, 5, -1)", house.come(-1, 5, -1), OUT_OF_RANGE);
        due("come(0, 5, -1)", house.come(0, 5, -1), 0);
        due("come(99, 5, -1)", house.come(99, 5, -1), 1);
        due("come(100, 5, -1)", house.come(100, 5, -1), OUT_OF_RANGE);
        due("cart(0, 0)", house.cart(0, 0), 0);
        due("cart(1, 0)", house.cart(1, 0), 99);
    }

    @Sentence(under = "CARTS", says = "carries some (0 to 99)")
    static void cartsCarry0To99() {
        RopeSeals house = new RopeSeals();
        due("come(5, -1, -1)", house.come(5, -1, -1), OUT_OF_RANGE);
        due("come(5, 0, -1)", house.come(5, 0, -1), 0);
        due("come(5, 99, -1)", house.come(5, 99, -1), 1);
        due("come(5, 100, -1)", house.come(5, 100, -1), OUT_OF_RANGE);
        house.openAll();
        due("cart(0, 1)", house.cart(0, 1), 0);
        due("cart(1, 1)", house.cart(1, 1), 99);
    }

    @Sentence(under = "CARTS", says = "vouches for one cart that came ahead of it, or for none")
    static void cartsVouchForOneThatCameAheadOrForNone() {
        RopeSeals house = new RopeSeals();
        due("the first one, for itself", house.come(1, 1, 0), UNKNOWN);
        due("the first one, for none", house.come(1, 1, -1), 0);
        due("the second one, for the first", house.come(1, 1, 0), 1);
        due("the third one, for itself", house.come(1, 1, 2), UNKNOWN);
        due("the third one, for one to come", house.come(1, 1, 3), UNKNOWN);
        due("the third one, for the one just ahead", house.come(1, 1, 1), 2);
        due("cart(0, 2)", house.cart(0, 2), NONE);
        due("cart(1, 2)", house.cart(1, 2), 0);
        due("cart(2, 2)", house.cart(2, 2), 1);
    }

    @Sentence(under = "CARTS", says = "Its chain is the cart itself, the one for which it vouches,"
            + " the one for which that one does, and so on")
    static void cartsChainIsTheCartItselfAndSoOn() {
        RopeSeals house = chainOf(24);
        for (int rank = 0; rank < 24; rank++) {
            due("chain(23, " + rank + ")", house.chain(23, rank), 23 - rank);
        }
        due("chain(23, 24)", house.chain(23, 24), NONE);
        due("chain(0, 0), of one that vouches for none", house.chain(0, 0), 0);
        due("chain(0, 1), of one that vouches for none", house.chain(0, 1), NONE);
    }

    @Sentence(under = "CARTS", says = "the depth of a cart is how many these are")
    static void cartsDepthIsHowManyTheseAre() {
        RopeSeals house = chainOf(24);
        due("depth of one that vouches for none", house.cart(0, 9), 1);
        due("depth of the next one", house.cart(1, 9), 2);
        due("depth of the last one", house.cart(23, 9), 24);
    }

    // ---- ropes, seals

    @Sentence(under = "ROPES, SEALS", says = "The right seal of a cart is left of (A times its"
            + " claim, and B times the seal that the cart has for which it vouches (0 if it"
            + " vouches for none), and its own number, together) by M.")
    static void ropesRightSealIsLeftByM() {
        RopeSeals house = new RopeSeals();
        house.set(0, 1);
        house.set(2, 10);
        house.come(9, 0, -1);
        house.come(9, 0, -1);
        house.come(9, 0, -1);
        due("9 by 10", house.cart(0, 4), 9);
        due("9 + 1 by 10", house.cart(1, 4), 0);
        due("9 + 2 by 10", house.cart(2, 4), 1);
        house = new RopeSeals();
        house.set(0, 99);
        house.set(1, 99);
        house.set(2, 999);
        house.come(99, 0, -1);
        house.come(99, 0, 0);
        house.come(99, 0, 1);
        due("99 * 99 by 999", house.cart(0, 4), 9801 - 9 * 999);
        due("99 * 99 + 99 * 810 + 1 by 999", house.cart(1, 4), 89992 - 90 * 999);
        due("99 * 99 + 99 * 82 + 2 by 999", house.cart(2, 4), 17921 - 17 * 999);
    }

    @Sentence(under = "ROPES, SEALS", says = "(0 if it vouches for none)")
    static void ropesSealAheadIs0IfItVouchesForNone() {
        RopeSeals house = new RopeSeals();
        house.come(5, 5, -1);
        due("seal of 0", house.cart(0, 3), 58);
        house.come(5, 5, -1);
        due("seal of 1, which vouches for none", house.cart(1, 3), 59);
        house.come(5, 5, 0);
        due("seal of 2, which vouches for 0", house.cart(2, 3), (31 * 5 + 17 * 58 + 2) % 97);
    }

    @Sentence(under = "ROPES, SEALS", says = "B times the seal that the cart has for which it"
            + " vouches")
    static void ropesMadeOfTheSealThatThatOneHas() {
        RopeSeals house = new RopeSeals();
        house.come(5, 5, -1);
        house.alter(0, 6);
        house.come(0, 0, 0);
        due("by the seal 58, which is not right", house.cart(1, 3), (17 * 58 + 1) % 97);
        due("its rope is whole", isWhole(house, 1), 1);
        house.reseal(0);
        due("by the seal 89, which 0 has now", house.cart(1, 4), (17 * 89 + 1) % 97);
    }

    @Sentence(under = "ROPES, SEALS", says = "A cart gets its right seal as it comes.")
    static void ropesRightSealAsItComes() {
        RopeSeals house = chainOf(2);
        house.set(0, 40);
        house.set(1, 50);
        house.set(2, 600);
        breakRope(house, 0);
        house.come(7, 3, 1);
        due("seal of 2", house.cart(2, 3), (40 * 7 + 50 * house.cart(1, 3) + 2) % 600);
        due("its rope", isWhole(house, 2), 1);
    }

    @Sentence(under = "ROPES, SEALS", says = "Its rope is whole as long as its seal is the right"
            + " one (by claims, seals and settings as they are).")
    static void ropesWholeByClaims() {
        RopeSeals house = chainOf(3);
        house.alter(1, 50);
        due("another claim", isWhole(house, 1), 0);
        house.alter(1, 1);
        due("the old claim", isWhole(house, 1), 1);
        house.alter(1, 98);
        due("a claim with the same seal", isWhole(house, 1), 1);
        due("the one behind, all the time", isWhole(house, 2), 1);
    }

    @Sentence(under = "ROPES, SEALS", says = "Its rope is whole as long as its seal is the right"
            + " one (by claims, seals and settings as they are).")
    static void ropesWholeBySeals() {
        RopeSeals house = chainOf(3);
        house.alter(0, 50);
        due("as long as 0 has its seal", isWhole(house, 1), 1);
        house.reseal(0);
        due("when 0 has another seal", isWhole(house, 1), 0);
        due("2, as 1 has its seal", isWhole(house, 2), 1);
        house.alter(0, 0);
        due("as long as 0 has the other seal", isWhole(house, 1), 0);
        house.reseal(0);
        due("when 0 has the old seal", isWhole(house, 1), 1);
    }

    @Sentence(under = "ROPES, SEALS", says = "Its rope is whole as long as its seal is the right"
            + " one (by claims, seals and settings as they are).")
    static void ropesWholeBySettings() {
        int[] others = {32, 18, 98};
        for (int setting = 0; setting < 3; setting++) {
            RopeSeals house = new RopeSeals();
            house.come(40, 40, -1);
            house.come(41, 41, 0);
            int old = house.set(setting, others[setting]);
            due("by another value of setting " + setting, isWhole(house, 1), 0);
            house.set(setting, old);
            due("by the old value of setting " + setting, isWhole(house, 1), 1);
        }
        RopeSeals house = new RopeSeals();
        house.come(2, 2, -1);
        house.set(2, 50);
        due("a seal that is M or more", house.cart(0, 3), 62);
        due("the right one, 62 by 50", house.cart(0, 4), 12);
        due("its rope", isWhole(house, 0), 0);
    }

    // ---- settings

    private static void range(int setting, int least, int greatest, int first) {
        RopeSeals house = new RopeSeals();
        String call = "set(" + setting + ", ";
        due("first value", house.total(setting), first);
        due(call + (least - 1) + ")", house.set(setting, least - 1), OUT_OF_RANGE);
        due(call + (greatest + 1) + ")", house.set(setting, greatest + 1), OUT_OF_RANGE);
        due(call + "least int)", house.set(setting, LEAST), OUT_OF_RANGE);
        due(call + "greatest int)", house.set(setting, GREATEST), OUT_OF_RANGE);
        due(call + least + ")", house.set(setting, least), first);
        due("value", house.total(setting), least);
        due(call + greatest + ")", house.set(setting, greatest), least);
        due("value", house.total(setting), greatest);
        for (int other = 0; other < 5; other++) {
            if (other != setting) {
                due("setting " + other, house.total(other), new RopeSeals().total(other));
            }
        }
    }

    @Sentence(under = "SETTINGS", says = "0 A (1 to 99; 31)")
    static void settingsA1To99First31() {
        range(0, 1, 99, 31);
    }

    @Sentence(under = "SETTINGS", says = "1 B (1 to 99; 17)")
    static void settingsB1To99First17() {
        range(1, 1, 99, 17);
    }

    @Sentence(under = "SETTINGS", says = "2 M (10 to 999; 97)")
    static void settingsM10To999First97() {
        range(2, 10, 999, 97);
    }

    @Sentence(under = "SETTINGS", says = "3 FINE (0 to 99; 10)")
    static void settingsFine0To99First10() {
        range(3, 0, 99, 10);
    }

    @Sentence(under = "SETTINGS", says = "4 VOUCH (0 to 99; 5)")
    static void settingsVouch0To99First5() {
        range(4, 0, 99, 5);
    }

    // ---- promise 1

    @Sentence(under = "Promise 1: A new object", says = "Creates a toll house without carts.")
    static void promise1WithoutCarts() {
        RopeSeals old = chainOf(24);
        breakRope(old, 3);
        old.openAll();
        old.keep();
        Due.typeAll(old, "o1");
        RopeSeals house = new RopeSeals();
        for (int what = 5; what <= 16; what++) {
            due("total(" + what + ")", house.total(what), 0);
        }
        due("cart(0, 0)", house.cart(0, 0), UNKNOWN);
        due("cart(-1, 0)", house.cart(-1, 0), UNKNOWN);
        due("chain(0, 0)", house.chain(0, 0), UNKNOWN);
        due("brokenIn(0)", house.brokenIn(0), UNKNOWN);
        due("ifOpened(0, 0)", house.ifOpened(0, 0), UNKNOWN);
        due("sameSeal(0)", house.sameSeal(0), UNKNOWN);
        due("alter(0, 1)", house.alter(0, 1), UNKNOWN);
        due("reseal(0)", house.reseal(0), UNKNOWN);
        due("open(0)", house.open(0), UNKNOWN);
    }

    // ---- promise 2

    @Sentence(under = "Promise 2: come", says = "`claim`: 0 to 99")
    static void promise2Claim0To99() {
        RopeSeals house = new RopeSeals();
        int[] wrong = {-1, 100, LEAST, GREATEST};
        for (int claim : wrong) {
            due("come(" + claim + ", 0, -1)", house.come(claim, 0, -1), OUT_OF_RANGE);
        }
        due("come(0, 50, -1)", house.come(0, 50, -1), 0);
        due("come(99, 50, -1)", house.come(99, 50, -1), 1);
        due("tolls", house.total(10), 99);
    }

    @Sentence(under = "Promise 2: come", says = "`load`: 0 to 99")
    static void promise2Load0To99() {
        RopeSeals house = new RopeSeals();
        int[] wrong = {-1, 100, LEAST, GREATEST};
        for (int load : wrong) {
            due("come(0, " + load + ", -1)", house.come(0, load, -1), OUT_OF_RANGE);
        }
        due("come(50, 0, -1)", house.come(50, 0, -1), 0);
        due("come(50, 99, -1)", house.come(50, 99, -1), 1);
        house.openAll();
        due("sacks found", house.total(14), 99);
    }

    @Sentence(under = "Promise 2: come", says = "a cart, or -1 for none")
    static void promise2VouchForACartOrMinus1ForNone() {
        RopeSeals house = singles(22);
        due("come(1, 1, -1)", house.come(1, 1, -1), 22);
        due("come(1, 1, 22)", house.come(1, 1, 22), 23);
        due("cart(22, 2)", house.cart(22, 2), NONE);
        due("cart(23, 2)", house.cart(23, 2), 22);
    }

    @Sentence(under = "Promise 2: come", says = "This is a change.")
    static void promise2IsAChange() {
        RopeSeals house = new RopeSeals();
        house.come(0, 0, -1);
        due("states after the answer 0", states(house), 1);
        house.come(0, 0, 0);
        due("states", states(house), 2);
        house.undo();
        due("carts after undo()", house.total(5), 1);
    }

    @Sentence(under = "Promise 2: come", says = "Returns its number")
    static void promise2ReturnsItsNumber() {
        RopeSeals house = new RopeSeals();
        due("the first", house.come(9, 9, -1), 0);
        due("the second", house.come(9, 9, 0), 1);
        house.undo();
        due("the second, after undo()", house.come(9, 9, 0), 1);
    }

    @Sentence(under = "Promise 2: come", says = "UNKNOWN (vouchFor)")
    static void promise2UnknownVouchFor() {
        RopeSeals house = chainOf(2);
        due("come(1, 1, 2)", house.come(1, 1, 2), UNKNOWN);
        due("come(1, 1, -2)", house.come(1, 1, -2), UNKNOWN);
        due("come(1, 1, 24)", house.come(1, 1, 24), UNKNOWN);
        due("come(1, 1, 32), a shift by 32 is none", house.come(1, 1, 32), UNKNOWN);
        due("come(1, 1, least)", house.come(1, 1, LEAST), UNKNOWN);
        due("come(1, 1, greatest)", house.come(1, 1, GREATEST), UNKNOWN);
        due("carts", house.total(5), 2);
    }

    @Sentence(under = "Promise 2: come", says = "OUT_OF_RANGE")
    static void promise2OutOfRange() {
        RopeSeals house = new RopeSeals();
        due("the claim alone", house.come(100, 0, -1), OUT_OF_RANGE);
        due("the load alone", house.come(0, 100, -1), OUT_OF_RANGE);
        due("both", house.come(-1, -1, -1), OUT_OF_RANGE);
        due("carts", house.total(5), 0);
        due("tolls", house.total(10), 0);
    }

    @Sentence(under = "Promise 2: come", says = "FULL if 24 came")
    static void promise2FullIf24Came() {
        RopeSeals house = singles(23);
        due("the 24th", house.come(1, 1, 22), 23);
        due("the 25th", house.come(1, 1, -1), FULL);
        due("the 25th, for the 24th", house.come(1, 1, 23), FULL);
        due("tolls", house.total(10), 22 * 23 / 2 + 1);
        house.undo();
        due("the 24th, after undo()", house.come(1, 1, -1), 23);
    }

    @Sentence(under = "Promise 2: come", says = "UNKNOWN (vouchFor); OUT_OF_RANGE; FULL if 24"
            + " came.")
    static void promise2OrderOfErrors() {
        RopeSeals house = singles(24);
        due("UNKNOWN and OUT_OF_RANGE", house.come(100, 1, 24), UNKNOWN);
        due("UNKNOWN and OUT_OF_RANGE", house.come(1, -1, -2), UNKNOWN);
        due("UNKNOWN and FULL", house.come(1, 1, 24), UNKNOWN);
        due("OUT_OF_RANGE and FULL", house.come(100, 1, 23), OUT_OF_RANGE);
        due("OUT_OF_RANGE and FULL", house.come(1, -1, -1), OUT_OF_RANGE);
    }

    // ---- promise 3

    @Sentence(under = "Promise 3: alter", says = "Alters the claim of a cart; its seal stays.")
    static void promise3ItsSealStays() {
        RopeSeals house = chainOf(3);
        int seal = house.cart(1, 3);
        house.alter(1, 50);
        due("claim", house.cart(1, 0), 50);
        due("seal", house.cart(1, 3), seal);
        due("right seal", house.cart(1, 4), (31 * 50 + 1) % 97);
    }

    @Sentence(under = "Promise 3: alter", says = "This is a change.")
    static void promise3IsAChange() {
        RopeSeals house = chainOf(1);
        house.alter(0, 8);
        due("states after the answer 0", states(house), 2);
        house.undo();
        due("claim after undo()", house.cart(0, 0), 0);
    }

    @Sentence(under = "Promise 3: alter", says = "`claim`: 0 to 99")
    static void promise3Claim0To99() {
        RopeSeals house = chainOf(2);
        due("alter(1, 0)", house.alter(1, 0), 1);
        due("alter(1, 99)", house.alter(1, 99), 0);
        due("alter(1, 100)", house.alter(1, 100), OUT_OF_RANGE);
        due("alter(1, -1)", house.alter(1, -1), OUT_OF_RANGE);
        due("alter(1, least)", house.alter(1, LEAST), OUT_OF_RANGE);
        due("alter(1, greatest)", house.alter(1, GREATEST), OUT_OF_RANGE);
        due("claim", house.cart(1, 0), 99);
    }

    @Sentence(under = "Promise 3: alter", says = "Returns the previous claim")
    static void promise3ReturnsThePreviousClaim() {
        RopeSeals house = chainOf(2);
        due("alter(1, 7)", house.alter(1, 7), 1);
        due("alter(1, 9)", house.alter(1, 9), 7);
        due("alter(0, 9)", house.alter(0, 9), 0);
    }

    @Sentence(under = "Promise 3: alter", says = "UNKNOWN")
    static void promise3Unknown() {
        RopeSeals house = chainOf(2);
        for (int cart : NOT_OF_TWO) {
            due("alter(" + cart + ", 5)", house.alter(cart, 5), UNKNOWN);
        }
        due("alter(1, 5)", house.alter(1, 5), 1);
    }

    @Sentence(under = "Promise 3: alter", says = "NOT_POSSIBLE if it was opened")
    static void promise3NotPossibleIfItWasOpened() {
        RopeSeals house = chainOf(3);
        house.open(1);
        due("alter(1, 9), opened", house.alter(1, 9), NOT_POSSIBLE);
        due("claim", house.cart(1, 0), 1);
        due("alter(0, 9), cleared, but not opened", house.alter(0, 9), 0);
        house.open(0);
        due("alter(0, 8), found to lie", house.alter(0, 8), NOT_POSSIBLE);
    }

    @Sentence(under = "Promise 3: alter", says = "NONE if it claims so much already")
    static void promise3NoneIfItClaimsSoMuchAlready() {
        RopeSeals house = chainOf(2);
        String before = seen(house);
        due("alter(1, 1)", house.alter(1, 1), NONE);
        due("alter(0, 0)", house.alter(0, 0), NONE);
        holds("nothing changed", seen(house).equals(before));
        house.alter(1, 9);
        due("alter(1, 9), again", house.alter(1, 9), NONE);
        due("alter(1, 1), the claim with which it came", house.alter(1, 1), 9);
    }

    @Sentence(under = "Promise 3: alter", says = "UNKNOWN; OUT_OF_RANGE; NOT_POSSIBLE if it was"
            + " opened; NONE if it claims so much already.")
    static void promise3OrderOfErrors() {
        RopeSeals house = chainOf(3);
        house.open(2);
        due("UNKNOWN and OUT_OF_RANGE", house.alter(3, 100), UNKNOWN);
        due("UNKNOWN and OUT_OF_RANGE", house.alter(-1, -1), UNKNOWN);
        due("OUT_OF_RANGE and NOT_POSSIBLE", house.alter(2, 100), OUT_OF_RANGE);
        due("OUT_OF_RANGE and NOT_POSSIBLE", house.alter(2, -1), OUT_OF_RANGE);
        due("NOT_POSSIBLE, and it claims so much", house.alter(2, 2), NOT_POSSIBLE);
    }

    // ---- promise 4

    @Sentence(under = "Promise 4: reseal", says = "Gives a cart its right seal.")
    static void promise4GivesItsRightSeal() {
        RopeSeals house = chainOf(3);
        house.alter(1, 50);
        house.reseal(1);
        due("seal", house.cart(1, 3), (31 * 50 + 1) % 97);
        due("rope", isWhole(house, 1), 1);
        due("rope of the one behind", isWhole(house, 2), 0);
        house.open(1);
        house.set(2, 500);
        due("an opened cart", house.reseal(1), (31 * 50 + 1) % 97);
        due("seal", house.cart(1, 3), (31 * 50 + 1) % 500);
    }

    @Sentence(under = "Promise 4: reseal", says = "This is a change.")
    static void promise4IsAChange() {
        RopeSeals house = chainOf(1);
        house.alter(0, 8);
        due("reseal(0), whose seal was 0", house.reseal(0), 0);
        due("states after the answer 0", states(house), 3);
        house.undo();
        due("seal after undo()", house.cart(0, 3), 0);
    }

    @Sentence(under = "Promise 4: reseal", says = "Returns the previous seal")
    static void promise4ReturnsThePreviousSeal() {
        RopeSeals house = chainOf(2);
        due("seal of 1", house.cart(1, 3), 32);
        house.alter(1, 3);
        due("reseal(1)", house.reseal(1), 32);
        house.alter(1, 1);
        due("reseal(1), again", house.reseal(1), 94);
    }

    @Sentence(under = "Promise 4: reseal", says = "UNKNOWN")
    static void promise4Unknown() {
        RopeSeals house = chainOf(2);
        house.set(0, 30);
        for (int cart : NOT_OF_TWO) {
            due("reseal(" + cart + ")", house.reseal(cart), UNKNOWN);
        }
    }

    @Sentence(under = "Promise 4: reseal", says = "NONE if its rope is whole")
    static void promise4NoneIfItsRopeIsWhole() {
        RopeSeals house = chainOf(2);
        String before = seen(house);
        due("reseal(1)", house.reseal(1), NONE);
        holds("nothing changed", seen(house).equals(before));
        house.alter(1, 98);
        due("reseal(1), another claim, the same seal", house.reseal(1), NONE);
        house.alter(1, 97);
        due("reseal(1), not whole", house.reseal(1), 32);
        due("reseal(1), whole again", house.reseal(1), NONE);
    }

    @Sentence(under = "Promise 4: reseal", says = "UNKNOWN; NONE if its rope is whole.")
    static void promise4OrderOfErrors() {
        due("reseal(0) without carts, where no rope is broken", new RopeSeals().reseal(0),
                UNKNOWN);
    }

    // ---- promise 7

    @Sentence(under = "Promise 7: set", says = "Seals stay.")
    static void promise7SealsStay() {
        RopeSeals house = chainOf(24);
        int[] seals = new int[24];
        for (int cart = 0; cart < 24; cart++) {
            seals[cart] = house.cart(cart, 3);
        }
        house.set(0, 99);
        house.set(1, 1);
        house.set(2, 10);
        for (int cart = 0; cart < 24; cart++) {
            due("seal of " + cart, house.cart(cart, 3), seals[cart]);
        }
    }

    @Sentence(under = "Promise 7: set", says = "This is a change.")
    static void promise7IsAChange() {
        RopeSeals house = new RopeSeals();
        house.set(3, 0);
        due("states", states(house), 1);
        house.set(3, 99);
        due("states after the answer 0", states(house), 2);
        house.undo();
        due("value after undo()", house.total(3), 0);
    }

    @Sentence(under = "Promise 7: set", says = "`setting`: 0 to 4")
    static void promise7Setting0To4() {
        RopeSeals house = new RopeSeals();
        due("set(-1, 50)", house.set(-1, 50), UNKNOWN);
        due("set(0, 50)", house.set(0, 50), 31);
        due("set(4, 50)", house.set(4, 50), 5);
        due("set(5, 50)", house.set(5, 50), UNKNOWN);
    }

    @Sentence(under = "Promise 7: set", says = "`value`: in its range")
    static void promise7ValueInItsRange() {
        int[] least = {1, 1, 10, 0, 0};
        int[] greatest = {99, 99, 999, 99, 99};
        for (int setting = 0; setting < 5; setting++) {
            RopeSeals house = new RopeSeals();
            int[] wrong = {least[setting] - 1, greatest[setting] + 1, LEAST, GREATEST};
            for (int value : wrong) {
                due("set(" + setting + ", " + value + ")", house.set(setting, value),
                        OUT_OF_RANGE);
            }
            house.set(setting, least[setting]);
            due("the least value of " + setting, house.total(setting), least[setting]);
            house.set(setting, greatest[setting]);
            due("the greatest value of " + setting, house.total(setting), greatest[setting]);
        }
    }

    @Sentence(under = "Promise 7: set", says = "Returns the previous value")
    static void promise7ReturnsThePreviousValue() {
        RopeSeals house = new RopeSeals();
        due("set(4, 0)", house.set(4, 0), 5);
        due("set(4, 7)", house.set(4, 7), 0);
        due("set(4, 5)", house.set(4, 5), 7);
    }

    @Sentence(under = "Promise 7: set", says = "UNKNOWN")
    static void promise7Unknown() {
        RopeSeals house = new RopeSeals();
        int[] unknown = {5, -1, 32, LEAST, GREATEST};
        for (int setting : unknown) {
            due("set(" + setting + ", 50)", house.set(setting, 50), UNKNOWN);
        }
    }

    @Sentence(under = "Promise 7: set", says = "OUT_OF_RANGE")
    static void promise7OutOfRange() {
        RopeSeals house = new RopeSeals();
        String before = seen(house);
        due("set(0, 0), though FINE may be 0", house.set(0, 0), OUT_OF_RANGE);
        due("set(0, 100), though M may be 100", house.set(0, 100), OUT_OF_RANGE);
        due("set(2, 9), though A may be 9", house.set(2, 9), OUT_OF_RANGE);
        due("set(2, 1000)", house.set(2, 1000), OUT_OF_RANGE);
        due("set(4, -1)", house.set(4, -1), OUT_OF_RANGE);
        holds("nothing changed", seen(house).equals(before));
    }

    @Sentence(under = "Promise 7: set", says = "NONE if it has this value already")
    static void promise7NoneIfItHasThisValueAlready() {
        RopeSeals house = new RopeSeals();
        int[] first = {31, 17, 97, 10, 5};
        for (int setting = 0; setting < 5; setting++) {
            due("set(" + setting + ", " + first[setting] + ")",
                    house.set(setting, first[setting]), NONE);
        }
        due("states", states(house), 0);
        house.set(3, 0);
        due("set(3, 0), again", house.set(3, 0), NONE);
        due("set(3, 10), the first value", house.set(3, 10), 0);
    }

    @Sentence(under = "Promise 7: set", says = "UNKNOWN; OUT_OF_RANGE; NONE if it has this value"
            + " already.")
    static void promise7OrderOfErrors() {
        RopeSeals house = new RopeSeals();
        due("UNKNOWN and OUT_OF_RANGE", house.set(5, -1), UNKNOWN);
        due("UNKNOWN and OUT_OF_RANGE", house.set(-1, 1000), UNKNOWN);
        due("UNKNOWN and OUT_OF_RANGE", house.set(LEAST, LEAST), UNKNOWN);
        due("UNKNOWN and OUT_OF_RANGE", house.set(GREATEST, GREATEST), UNKNOWN);
    }
}
