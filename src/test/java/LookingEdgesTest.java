import java.io.IOException;

/** Sentences of the promises 14 to 17. */
public final class LookingEdgesTest extends Edges {
    private LookingEdgesTest() {
    }

    public static void main(String[] args) throws IOException, ReflectiveOperationException {
        runAll(LookingEdgesTest.class);
    }

    // ---- promise 14

    @Sentence(under = "Promise 14: cart", says = "0 for its claim")
    static void promise14ItsClaim() {
        RopeSeals house = new RopeSeals();
        house.come(0, 7, -1);
        house.come(99, 7, 0);
        due("cart(0, 0)", house.cart(0, 0), 0);
        due("cart(1, 0)", house.cart(1, 0), 99);
        house.alter(1, 98);
        due("cart(1, 0), altered", house.cart(1, 0), 98);
    }

    @Sentence(under = "Promise 14: cart", says = "1 for its load if it was opened (NONE otherwise)")
    static void promise14ItsLoadIfItWasOpened() {
        RopeSeals house = new RopeSeals();
        house.come(5, 0, -1);
        house.come(5, 99, -1);
        house.come(4, 4, 1);
        house.open(2);
        due("cart(1, 1), cleared, but not opened", house.cart(1, 1), NONE);
        due("cart(0, 1), neither", house.cart(0, 1), NONE);
        due("cart(2, 1), honest", house.cart(2, 1), 4);
        house.openAll();
        due("cart(0, 1), a liar", house.cart(0, 1), 0);
        house.open(1);
        due("cart(1, 1), a liar", house.cart(1, 1), 99);
        house.undo();
        due("cart(1, 1), after undo()", house.cart(1, 1), NONE);
    }

    @Sentence(under = "Promise 14: cart", says = "2 for the cart for which it vouches (NONE without"
            + " one)")
    static void promise14TheCartForWhichItVouches() {
        RopeSeals house = chainOf(24);
        due("cart(0, 2)", house.cart(0, 2), NONE);
        due("cart(1, 2)", house.cart(1, 2), 0);
        due("cart(23, 2)", house.cart(23, 2), 22);
        breakRope(house, 23);
        due("cart(23, 2), whose rope is not whole", house.cart(23, 2), 22);
    }

    @Sentence(under = "Promise 14: cart", says = "3 for its seal")
    static void promise14ItsSeal() {
        RopeSeals house = chainOf(2);
        due("cart(0, 3)", house.cart(0, 3), 0);
        due("cart(1, 3)", house.cart(1, 3), 32);
        house.alter(1, 3);
        due("cart(1, 3), altered", house.cart(1, 3), 32);
        house.set(2, 10);
        due("cart(1, 3), which M has not", house.cart(1, 3), 32);
        house.reseal(1);
        due("cart(1, 3), resealed", house.cart(1, 3), 4);
    }

    @Sentence(under = "Promise 14: cart", says = "4 for its right seal")
    static void promise14ItsRightSeal() {
        RopeSeals house = chainOf(2);
        due("cart(0, 4)", house.cart(0, 4), 0);
        due("cart(1, 4)", house.cart(1, 4), 32);
        house.alter(1, 3);
        due("cart(1, 4), altered", house.cart(1, 4), 94);
        house.set(2, 10);
        due("cart(1, 4), M is 10", house.cart(1, 4), 4);
        house.alter(0, 3);
        due("cart(1, 4), 0 has its seal still", house.cart(1, 4), 4);
        house.reseal(0);
        due("cart(1, 4), 0 has another seal", house.cart(1, 4), (94 + 17 * 3) % 10);
    }

    @Sentence(under = "Promise 14: cart", says = "5 for whether its rope is whole (1, otherwise 0)")
    static void promise14WhetherItsRopeIsWhole() {
        RopeSeals house = chainOf(3);
        house.alter(1, 3);
        int[] wants = {1, 0, 1};
        for (int cart = 0; cart < 3; cart++) {
            due("cart(" + cart + ", 5)", house.cart(cart, 5), wants[cart]);
        }
    }

    @Sentence(under = "Promise 14: cart", says = "6 for whether it was opened (1, otherwise 0)")
    static void promise14WhetherItWasOpened() {
        RopeSeals house = chainOf(3);
        house.come(5, 4, 2);
        house.open(3);
        house.open(2);
        int[] wants = {0, 0, 1, 1};
        for (int cart = 0; cart < 4; cart++) {
            due("cart(" + cart + ", 6)", house.cart(cart, 6), wants[cart]);
        }
    }

    @Sentence(under = "Promise 14: cart", says = "7 for whether it is cleared (1, otherwise 0)")
    static void promise14WhetherItIsCleared() {
        RopeSeals house = chainOf(3);
        house.come(5, 4, 2);
        house.open(3);
        house.open(1);
        int[] wants = {1, 1, 0, 0};
        for (int cart = 0; cart < 4; cart++) {
            due("cart(" + cart + ", 7)", house.cart(cart, 7), wants[cart]);
        }
    }

    @Sentence(under = "Promise 14: cart", says = "8 for its fines so far")
    static void promise14ItsFinesSoFar() {
        RopeSeals house = new RopeSeals();
        house.come(5, 4, -1);
        house.come(5, 3, 0);
        due("cart(1, 8)", house.cart(1, 8), 0);
        house.open(0);
        due("cart(1, 8), for the one for which it vouched", house.cart(1, 8), 5);
        house.open(1);
        due("cart(1, 8), its own, too", house.cart(1, 8), 5 + 10 + 4);
        house.set(3, 0);
        due("cart(1, 8), by settings of the time", house.cart(1, 8), 19);
    }

    @Sentence(under = "Promise 14: cart", says = "9 for its depth")
    static void promise14ItsDepth() {
        RopeSeals house = chainOf(23);
        house.come(1, 1, -1);
        due("cart(0, 9)", house.cart(0, 9), 1);
        due("cart(22, 9)", house.cart(22, 9), 23);
        due("cart(23, 9)", house.cart(23, 9), 1);
        house.alter(10, 50);
        due("cart(22, 9), with a rope that is not whole", house.cart(22, 9), 23);
    }

    @Sentence(under = "Promise 14: cart", says = "10 for how many carts vouch for it")
    static void promise14HowManyCartsVouchForIt() {
        RopeSeals house = singles(1);
        due("cart(0, 10), alone", house.cart(0, 10), 0);
        for (int cart = 1; cart < 23; cart++) {
            house.come(1, 1, 0);
        }
        house.come(1, 1, 22);
        due("cart(0, 10)", house.cart(0, 10), 22);
        due("cart(22, 10)", house.cart(22, 10), 1);
        due("cart(23, 10)", house.cart(23, 10), 0);
        breakRope(house, 5);
        due("cart(0, 10), with a rope that is not whole", house.cart(0, 10), 22);
    }

    @Sentence(under = "Promise 14: cart", says = "11 for how many carts have it in their chains"
            + " (itself, too)")
    static void promise14HowManyHaveItInTheirChainsItselfToo() {
        RopeSeals house = chainOf(23);
        house.come(1, 1, 0);
        due("cart(0, 11)", house.cart(0, 11), 24);
        due("cart(1, 11)", house.cart(1, 11), 22);
        due("cart(22, 11), itself alone", house.cart(22, 11), 1);
        due("cart(23, 11), itself alone", house.cart(23, 11), 1);
        breakRope(house, 10);
        due("cart(1, 11), with a rope that is not whole", house.cart(1, 11), 22);
    }

    @Sentence(under = "Promise 14: cart", says = "UNKNOWN")
    static void promise14Unknown() {
        RopeSeals house = chainOf(2);
        for (int cart : NOT_OF_TWO) {
            for (int what = 0; what <= 12; what++) {
                due("cart(" + cart + ", " + what + ")", house.cart(cart, what), UNKNOWN);
            }
        }
    }

    @Sentence(under = "Promise 14: cart", says = "OUT_OF_RANGE")
    static void promise14OutOfRange() {
        RopeSeals house = chainOf(2);
        int[] wrong = {-1, 13, 32, LEAST, GREATEST};
        for (int what : wrong) {
            due("cart(1, " + what + ")", house.cart(1, what), OUT_OF_RANGE);
        }
    }

    @Sentence(under = "Promise 14: cart", says = "Returns the number; UNKNOWN; OUT_OF_RANGE.")
    static void promise14OrderOfErrors() {
        RopeSeals house = chainOf(2);
        due("UNKNOWN and OUT_OF_RANGE", house.cart(2, 13), UNKNOWN);
        due("UNKNOWN and OUT_OF_RANGE", house.cart(-1, -1), UNKNOWN);
        due("UNKNOWN, though 1 is NONE for all carts", house.cart(2, 1), UNKNOWN);
    }

    // why it is not cleared

    @Sentence(under = "Promise 14: cart", says = "Why it is not cleared: 0 if it is")
    static void promise14Why0IfItIsCleared() {
        RopeSeals house = chainOf(2);
        house.open(1);
        due("cart(1, 12), none vouches for it", house.cart(1, 12), 0);
        due("cart(0, 12), one vouches for it", house.cart(0, 12), 0);
    }

    @Sentence(under = "Promise 14: cart", says = "otherwise the first of these that is so")
    static void promise14WhyTheFirstOfTheseThatIsSo() {
        RopeSeals house = new RopeSeals();
        house.come(5, 4, -1);
        house.open(0);
        due("1 and 2: it lies, and no cart vouches for it", house.cart(0, 12), 1);
        house.come(5, 5, 0);
        due("1 and 3: it lies, and none of those is cleared", house.cart(0, 12), 1);
        house.come(5, 5, -1);
        due("2, of which one may say 3 as well", house.cart(2, 12), 2);
    }

    @Sentence(under = "Promise 14: cart", says = "1 it was found to lie")
    static void promise14Why1ItWasFoundToLie() {
        RopeSeals house = new RopeSeals();
        house.come(5, 4, -1);
        house.come(5, 5, 0);
        due("cart(0, 12), it was not opened yet", house.cart(0, 12), 3);
        house.open(1);
        due("cart(0, 12), cleared by 1", house.cart(0, 12), 0);
        house.open(0);
        due("cart(0, 12), found to lie", house.cart(0, 12), 1);
    }

    @Sentence(under = "Promise 14: cart", says = "2 no cart vouches for it")
    static void promise14Why2NoCartVouchesForIt() {
        RopeSeals house = chainOf(2);
        due("cart(1, 12)", house.cart(1, 12), 2);
        house.come(5, 5, 0);
        due("cart(1, 12), another vouches for 0", house.cart(1, 12), 2);
        due("cart(2, 12)", house.cart(2, 12), 2);
        house.come(5, 5, 1);
        due("cart(1, 12), one vouches for it now", house.cart(1, 12), 3);
    }

    @Sentence(under = "Promise 14: cart", says = "3 none of those that vouch for it is cleared")
    static void promise14Why3NoneOfThoseThatVouchIsCleared() {
        RopeSeals house = new RopeSeals();
        house.come(1, 1, -1);
        house.come(2, 9, 0);
        house.come(3, 3, 0);
        house.come(4, 4, -1);
        due("cart(0, 12)", house.cart(0, 12), 3);
        house.open(1);
        house.open(3);
        due("cart(0, 12), one of those lies, another cart is cleared", house.cart(0, 12), 3);
    }

    @Sentence(under = "Promise 14: cart", says = "4 otherwise")
    static void promise14Why4Otherwise() {
        RopeSeals house = new RopeSeals();
        house.come(1, 1, -1);
        house.come(2, 2, 0);
        house.come(2, 3, 0);
        house.alter(2, 3);
        house.open(2);
        due("cart(0, 12), one of two is cleared, on a broken rope", house.cart(0, 12), 4);
        house.reseal(2);
        due("cart(0, 12), on a rope that is whole too late", house.cart(0, 12), 4);
    }

    // ---- promise 15

    @Sentence(under = "Promise 15: chain", says = "0 for itself, 1 for the one for which it"
            + " vouches, and so on")
    static void promise15Rank0ForItself() {
        RopeSeals house = new RopeSeals();
        house.come(1, 1, -1);
        house.come(1, 1, -1);
        house.come(1, 1, 0);
        house.come(1, 1, 2);
        house.alter(2, 50);
        due("chain(3, 0)", house.chain(3, 0), 3);
        due("chain(3, 1)", house.chain(3, 1), 2);
        due("chain(3, 2)", house.chain(3, 2), 0);
        due("chain(1, 0)", house.chain(1, 0), 1);
    }

    @Sentence(under = "Promise 15: chain", says = "UNKNOWN")
    static void promise15Unknown() {
        RopeSeals house = chainOf(2);
        for (int cart : NOT_OF_TWO) {
            due("chain(" + cart + ", 0)", house.chain(cart, 0), UNKNOWN);
        }
    }

    @Sentence(under = "Promise 15: chain", says = "OUT_OF_RANGE if rank is negative")
    static void promise15OutOfRangeIfRankIsNegative() {
        RopeSeals house = chainOf(2);
        due("chain(1, -1)", house.chain(1, -1), OUT_OF_RANGE);
        due("chain(1, least)", house.chain(1, LEAST), OUT_OF_RANGE);
        due("chain(1, 0)", house.chain(1, 0), 1);
    }

    @Sentence(under = "Promise 15: chain", says = "NONE if its chain has not so many")
    static void promise15NoneIfItsChainHasNotSoMany() {
        RopeSeals house = chainOf(24);
        due("chain(0, 1)", house.chain(0, 1), NONE);
        due("chain(22, 22)", house.chain(22, 22), 0);
        due("chain(22, 23)", house.chain(22, 23), NONE);
        due("chain(23, 23)", house.chain(23, 23), 0);
        due("chain(23, 24)", house.chain(23, 24), NONE);
        due("chain(23, 25)", house.chain(23, 25), NONE);
        due("chain(23, greatest)", house.chain(23, GREATEST), NONE);
    }

    @Sentence(under = "Promise 15: chain", says = "UNKNOWN; OUT_OF_RANGE if rank is negative; NONE"
            + " if its chain has not so many.")
    static void promise15OrderOfErrors() {
        RopeSeals house = chainOf(2);
        due("UNKNOWN and OUT_OF_RANGE", house.chain(2, -1), UNKNOWN);
        due("UNKNOWN and OUT_OF_RANGE", house.chain(-1, LEAST), UNKNOWN);
        due("UNKNOWN, and no chain has so many", house.chain(2, 24), UNKNOWN);
    }

    // ---- promise 16

    @Sentence(under = "Promise 16: brokenIn", says = "Finds the first cart of a chain, from the"
            + " cart on down, whose rope is not whole.")
    static void promise16TheFirstFromTheCartOnDown() {
        RopeSeals house = chainOf(24);
        house.alter(0, 50);
        due("brokenIn(23), the last of its chain", house.brokenIn(23), 0);
        due("brokenIn(0), the cart itself", house.brokenIn(0), 0);
        house.alter(10, 50);
        due("brokenIn(23), the first of two", house.brokenIn(23), 10);
        due("brokenIn(10), the cart itself", house.brokenIn(10), 10);
        due("brokenIn(9), on down", house.brokenIn(9), 0);
    }

    @Sentence(under = "Promise 16: brokenIn", says = "UNKNOWN")
    static void promise16Unknown() {
        RopeSeals house = chainOf(2);
        for (int cart : NOT_OF_TWO) {
            due("brokenIn(" + cart + ")", house.brokenIn(cart), UNKNOWN);
        }
    }

    @Sentence(under = "Promise 16: brokenIn", says = "NONE if all are whole")
    static void promise16NoneIfAllAreWhole() {
        RopeSeals house = chainOf(3);
        due("brokenIn(2)", house.brokenIn(2), NONE);
        due("brokenIn(0)", house.brokenIn(0), NONE);
        house.alter(2, 50);
        due("brokenIn(1), below the one that is not whole", house.brokenIn(1), NONE);
    }

    @Sentence(under = "Promise 16: brokenIn", says = "UNKNOWN; NONE if all are whole.")
    static void promise16OrderOfErrors() {
        due("brokenIn(0) without carts, where all are whole", new RopeSeals().brokenIn(0),
                UNKNOWN);
    }

    // ---- promise 17

    @Sentence(under = "Promise 17: total", says = "0 to 4 for the settings")
    static void promise17TheSettings() {
        RopeSeals house = new RopeSeals();
        int[] first = {31, 17, 97, 10, 5};
        int[] others = {1, 99, 999, 0, 98};
        for (int setting = 0; setting < 5; setting++) {
            due("total(" + setting + ")", house.total(setting), first[setting]);
            house.set(setting, others[setting]);
            due("total(" + setting + "), set", house.total(setting), others[setting]);
        }
    }

    @Sentence(under = "Promise 17: total", says = "5 for the carts")
    static void promise17TheCarts() {
        due("total(5), without carts", new RopeSeals().total(5), 0);
        due("total(5), of 24", singles(24).total(5), 24);
    }

    /** A chain of four of which the first three are cleared, and a liar behind it. */
    private static RopeSeals threeClearedTwoOpened() {
        RopeSeals house = chainOf(4);
        house.come(9, 1, 3);
        house.open(2);
        house.open(4);
        return house;
    }

    /** 24 carts, opened; a third of them lies. */
    private static RopeSeals allOpened() {
        RopeSeals house = new RopeSeals();
        for (int cart = 0; cart < 24; cart++) {
            house.come(0, cart % 3 / 2, -1);
        }
        house.openAll();
        return house;
    }

    @Sentence(under = "Promise 17: total", says = "6 for those that were opened")
    static void promise17ThoseThatWereOpened() {
        due("total(6), of none", chainOf(4).total(6), 0);
        due("total(6)", threeClearedTwoOpened().total(6), 2);
        due("total(6), all", allOpened().total(6), 24);
    }

    @Sentence(under = "Promise 17: total", says = "7 for those that are cleared")
    static void promise17ThoseThatAreCleared() {
        due("total(7), of none", chainOf(4).total(7), 0);
        due("total(7)", threeClearedTwoOpened().total(7), 3);
        due("total(7), two thirds of all", allOpened().total(7), 16);
        RopeSeals house = chainOf(24);
        house.openAll();
        due("total(7), all", house.total(7), 24);
    }

    @Sentence(under = "Promise 17: total", says = "8 for those that were found to lie")
    static void promise17ThoseThatWereFoundToLie() {
        RopeSeals house = chainOf(3);
        house.come(9, 1, 2);
        due("total(8), none was opened", house.total(8), 0);
        due("total(8)", threeClearedTwoOpened().total(8), 1);
        due("total(8), a third of all", allOpened().total(8), 8);
    }

    @Sentence(under = "Promise 17: total", says = "9 for ropes that are not whole")
    static void promise17RopesThatAreNotWhole() {
        RopeSeals house = chainOf(24);
        due("total(9)", house.total(9), 0);
        house.alter(0, 50);
        house.alter(23, 50);
        due("total(9), the first and the last", house.total(9), 2);
        house.reseal(0);
        due("total(9), as 1 was made by the old seal", house.total(9), 2);
        house.reseal(1);
        house.reseal(23);
        due("total(9), only 2 is left", house.total(9), 1);
    }

    @Sentence(under = "Promise 17: total", says = "10 for tolls so far")
    static void promise17TollsSoFar() {
        RopeSeals house = singles(24);
        due("total(10)", house.total(10), 23 * 24 / 2);
        house.come(99, 99, -1);
        due("total(10), the 25th pays none", house.total(10), 23 * 24 / 2);
        house.alter(5, 99);
        due("total(10), altered", house.total(10), 23 * 24 / 2);
        house.undo();
        house.undo();
        due("total(10), the 24th did not come", house.total(10), 22 * 23 / 2);
    }

    @Sentence(under = "Promise 17: total", says = "11 for fines so far")
    static void promise17FinesSoFar() {
        RopeSeals house = new RopeSeals();
        for (int cart = 0; cart < 24; cart++) {
            house.come(0, 99, cart - 1);
        }
        due("total(11)", house.total(11), 0);
        house.openAll();
        due("total(11), all lie, 23 vouched", house.total(11), 24 * 208 + 23 * 5);
    }

    @Sentence(under = "Promise 17: total", says = "12 for the greatest depth (0 without carts)")
    static void promise17TheGreatestDepth0WithoutCarts() {
        RopeSeals house = new RopeSeals();
        due("total(12), without carts", house.total(12), 0);
        house.come(1, 1, -1);
        due("total(12), one cart", house.total(12), 1);
        house.come(1, 1, 0);
        house.come(1, 1, -1);
        due("total(12), 0 and 1, and 2 alone", house.total(12), 2);
        due("total(12), a chain of 24", chainOf(24).total(12), 24);
    }

    @Sentence(under = "Promise 17: total", says = "13 for carts for which none vouches")
    static void promise17CartsForWhichNoneVouches() {
        due("total(13), without carts", new RopeSeals().total(13), 0);
        due("total(13), one chain", chainOf(24).total(13), 1);
        RopeSeals house = singles(22);
        due("total(13), 22 alone", house.total(13), 22);
        house.come(1, 1, 21);
        due("total(13), one more that vouches", house.total(13), 22);
        house.come(1, 1, 21);
        due("total(13), another that vouches for the same one", house.total(13), 23);
    }

    @Sentence(under = "Promise 17: total", says = "14 for sacks that were found so far (loads of"
            + " opened carts)")
    static void promise17SacksThatWereFoundSoFar() {
        RopeSeals house = new RopeSeals();
        for (int cart = 0; cart < 24; cart++) {
            house.come(50, 99, -1);
        }
        due("total(14)", house.total(14), 0);
        house.open(0);
        due("total(14), loads, not claims", house.total(14), 99);
        house.openAll();
        due("total(14), of all", house.total(14), 24 * 99);
        house = chainOf(5);
        house.open(4);
        due("total(14), not of those that are cleared alone", house.total(14), 4);
    }

    @Sentence(under = "Promise 17: total", says = "15 for the states in the history")
    static void promise17TheStatesInTheHistory() {
        RopeSeals house = new RopeSeals();
        for (int changes = 0; changes <= 6; changes++) {
            due("total(15) after " + changes, house.total(15), Math.min(changes, 4));
            house.come(1, 1, -1);
        }
        house.undo();
        due("total(15), after undo()", house.total(15), 3);
    }

    @Sentence(under = "Promise 17: total", says = "16 for the length of the text")
    static void promise17TheLengthOfTheText() {
        RopeSeals house = new RopeSeals();
        due("total(16)", house.total(16), 0);
        for (int i = 0; i < 62; i++) {
            house.type('?');
            due("total(16) after " + (i + 1), house.total(16), Math.min(i + 1, 60));
        }
        house.clearText();
        due("total(16), emptied", house.total(16), 0);
    }

    @Sentence(under = "Promise 17: total", says = "OUT_OF_RANGE")
    static void promise17OutOfRange() {
        RopeSeals house = chainOf(2);
        int[] wrong = {-1, 17, 32, LEAST, GREATEST};
        for (int what : wrong) {
            due("total(" + what + ")", house.total(what), OUT_OF_RANGE);
        }
    }
}
