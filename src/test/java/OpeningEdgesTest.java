import java.io.IOException;

/** Sentences of OPENING, CLEARING, and of the promises 5 and 6. */
public final class OpeningEdgesTest extends Edges {
    private OpeningEdgesTest() {
    }

    public static void main(String[] args) throws IOException, ReflectiveOperationException {
        runAll(OpeningEdgesTest.class);
    }

    /** A cart comes that carries what it claims, but its seal is of another claim. */
    private static void honestOnBrokenRope(RopeSeals house, int claim, int vouchFor) {
        int cart = house.come(claim - 1, claim, vouchFor);
        house.alter(cart, claim);
    }

    /** Whether the cart lies, when it is opened. */
    private static void dueLie(RopeSeals house, int cart, int want) {
        int liars = house.total(8);
        house.open(cart);
        due("cart " + cart + " was found to lie", house.total(8) - liars, want);
        due("cart " + cart + " is cleared", isCleared(house, cart), 1 - want);
    }

    // ---- opening, clearing

    @Sentence(under = "OPENING, CLEARING", says = "A cart that is opened (once at most)")
    static void openingOnceAtMost() {
        RopeSeals house = new RopeSeals();
        house.come(5, 9, -1);
        house.come(4, 4, -1);
        due("open(0)", house.open(0), 0);
        due("open(0), again", house.open(0), NOT_POSSIBLE);
        due("openAll(), the other one", house.openAll(), 1);
        due("openAll(), again", house.openAll(), NONE);
        due("perform() of o0", Due.perform(house, "o0"), NOT_POSSIBLE);
        due("fines, once", fines(house, 0), 18);
        due("opened", house.total(6), 2);
        due("sacks found", house.total(14), 13);
    }

    @Sentence(under = "OPENING, CLEARING", says = "is found to lie if it does not carry as many"
            + " sacks as it claims just then; otherwise it is honest")
    static void openingFoundToLieByTheClaimJustThen() {
        RopeSeals house = new RopeSeals();
        int[][] claimsAndLoads = {{0, 0}, {99, 99}, {5, 5}, {5, 4}, {5, 6}, {0, 99}, {99, 0}};
        for (int[] pair : claimsAndLoads) {
            int cart = house.come(pair[0], pair[1], -1);
            dueLie(house, cart, pair[0] == pair[1] ? 0 : 1);
        }
        house.come(5, 6, -1);
        house.alter(7, 6);
        dueLie(house, 7, 0);
        house.come(5, 5, -1);
        house.alter(8, 6);
        dueLie(house, 8, 1);
        house.come(5, 5, -1);
        house.alter(9, 6);
        house.alter(9, 5);
        dueLie(house, 9, 0);
    }

    @Sentence(under = "OPENING, CLEARING", says = "The toll house looks at ropes as they are at"
            + " that time")
    static void openingLooksAtRopesAsTheyAreAtThatTime() {
        RopeSeals house = chainOf(4);
        house.alter(2, 50);
        house.open(3);
        house.alter(2, 2);
        due("a rope that is whole only later clears none", isCleared(house, 1), 0);
        due("open(2), as it is whole now", house.open(2), 2);
        house.alter(1, 50);
        due("a rope that is broken later takes nothing back", isCleared(house, 0), 1);

        house = new RopeSeals();
        house.come(5, 4, -1);
        house.come(1, 1, 0);
        house.alter(1, 2);
        house.alter(1, 1);
        house.open(0);
        due("1 pays for the lie, as its rope is whole again", fines(house, 1), 5);
        house.set(4, 50);
        due("it pays by the settings of that time", fines(house, 1), 5);
    }

    @Sentence(under = "OPENING, CLEARING", says = "An honest cart is cleared; and if its rope is"
            + " whole, the cart for which it vouches is cleared, too")
    static void openingAnHonestCartIsClearedAndTheOneForWhichItVouches() {
        RopeSeals house = chainOf(2);
        due("open(1)", house.open(1), 2);
        due("1 is cleared", isCleared(house, 1), 1);
        due("0 is cleared", isCleared(house, 0), 1);

        house = singles(1);
        honestOnBrokenRope(house, 5, 0);
        due("open(1), whose rope is not whole", house.open(1), 1);
        due("1 is cleared", isCleared(house, 1), 1);
        due("0 is not", isCleared(house, 0), 0);

        house = singles(1);
        due("open(0), which vouches for none", house.open(0), 1);
    }

    @Sentence(under = "OPENING, CLEARING", says = "if the rope of that one is whole, the next one,"
            + " and so on down the chain")
    static void openingClearsOnDownTheChain() {
        RopeSeals house = chainOf(24);
        due("open(23)", house.open(23), 24);
        due("0 is cleared", isCleared(house, 0), 1);
        due("cleared", house.total(7), 24);

        house = chainOf(24);
        house.alter(12, 50);
        due("open(23), the rope of 12 is not whole", house.open(23), 12);
        due("12 is cleared", isCleared(house, 12), 1);
        due("11 is not", isCleared(house, 11), 0);

        house = chainOf(3);
        house.alter(0, 50);
        due("open(2), the rope of the last one is not whole", house.open(2), 3);
        due("it is cleared", isCleared(house, 0), 1);
    }

    @Sentence(under = "OPENING, CLEARING", says = "through carts that are cleared already")
    static void openingClearsThroughCartsThatAreClearedAlready() {
        RopeSeals house = chainOf(4);
        house.alter(1, 50);
        due("open(2), down to 1", house.open(2), 2);
        house.alter(1, 1);
        due("open(3), through 2 and 1", house.open(3), 2);
        due("0 is cleared", isCleared(house, 0), 1);
    }

    /** 3 vouches for 2, which lies, that for 1, which lies, and that for 0. */
    private static RopeSeals houseWithTwoLiars() {
        RopeSeals house = new RopeSeals();
        house.come(1, 1, -1);
        house.come(2, 9, 0);
        house.come(3, 9, 1);
        house.come(4, 4, 2);
        house.open(1);
        house.open(2);
        return house;
    }

    @Sentence(under = "OPENING, CLEARING", says = "those that were found to lie are not cleared by"
            + " that")
    static void openingDoesNotClearThoseThatWereFoundToLie() {
        RopeSeals house = houseWithTwoLiars();
        due("open(3)", house.open(3), 2);
        due("2 is not cleared", isCleared(house, 2), 0);
        due("1 is not cleared", isCleared(house, 1), 0);
    }

    @Sentence(under = "OPENING, CLEARING", says = "or were found to lie, as well")
    static void openingClearsThroughCartsThatWereFoundToLie() {
        RopeSeals house = houseWithTwoLiars();
        house.open(3);
        due("0 is cleared", isCleared(house, 0), 1);

        house = houseWithTwoLiars();
        breakRopeBySeal(house, 1, 0);
        due("open(3), the rope of a liar is not whole", house.open(3), 1);
        due("0 is not cleared", isCleared(house, 0), 0);

        house = new RopeSeals();
        house.come(1, 1, -1);
        house.come(2, 9, 0);
        house.come(4, 4, 1);
        house.open(1);
        breakRopeBySeal(house, 1, 0);
        due("open(2), the liar's rope is not whole", house.open(2), 1);
        due("0 is not cleared", isCleared(house, 0), 0);
    }

    /** Breaks the rope of an opened cart, by another seal of the one ahead. */
    private static void breakRopeBySeal(RopeSeals house, int cart, int ahead) {
        breakRope(house, ahead);
        house.reseal(ahead);
        due("rope of " + cart, isWhole(house, cart), 0);
    }

    @Sentence(under = "OPENING, CLEARING", says = "A cart that lies is not cleared (if it was, it"
            + " is not any more)")
    static void openingACartThatLiesIsNotClearedAnyMore() {
        RopeSeals house = new RopeSeals();
        house.come(1, 1, -1);
        house.come(2, 9, 0);
        house.come(3, 3, 1);
        due("open(2)", house.open(2), 3);
        due("open(1), a lie", house.open(1), 0);
        due("1 is not cleared any more", isCleared(house, 1), 0);
        due("0 stays cleared", isCleared(house, 0), 1);
        due("2 stays cleared", isCleared(house, 2), 1);
        house.come(9, 1, 2);
        due("open(3), a lie of one that was not cleared", house.open(3), 0);
        due("3 is not cleared", isCleared(house, 3), 0);
    }

    @Sentence(under = "OPENING, CLEARING", says = "pays a fine of FINE, and 2 for each sack by"
            + " which the claim is wrong")
    static void openingALiarPaysFineAnd2ForEachSack() {
        int[][] claimsAndLoads = {{5, 4}, {4, 5}, {0, 99}, {99, 0}};
        int[] wants = {12, 12, 208, 208};
        RopeSeals house = new RopeSeals();
        for (int cart = 0; cart < 4; cart++) {
            house.come(claimsAndLoads[cart][0], claimsAndLoads[cart][1], -1);
            house.open(cart);
            due("fines of " + cart, fines(house, cart), wants[cart]);
        }
        house.set(3, 0);
        house.come(5, 4, -1);
        house.open(4);
        due("fines with FINE 0", fines(house, 4), 2);
        house.set(3, 99);
        house.come(5, 4, -1);
        house.open(5);
        due("fines with FINE 99", fines(house, 5), 101);
        house.come(5, 5, -1);
        house.open(6);
        due("fines of an honest one", fines(house, 6), 0);
    }

    @Sentence(under = "OPENING, CLEARING", says = "each cart that vouches for it, and whose rope is"
            + " whole, pays a fine of VOUCH")
    static void openingEachThatVouchesOnAWholeRopePaysVouch() {
        RopeSeals house = new RopeSeals();
        house.come(1, 1, -1);
        house.come(5, 9, 0);
        house.come(2, 2, 1);
        house.come(3, 3, 1);
        house.come(4, 9, 1);
        house.come(6, 6, 2);
        house.alter(3, 8);
        house.open(2);
        house.open(4);
        house.open(1);
        due("2, opened and cleared, pays", fines(house, 2), 5);
        due("3, whose rope is not whole, does not", fines(house, 3), 0);
        due("4, a liar itself, pays", fines(house, 4), 10 + 10 + 5);
        due("5, which vouches for 2, does not", fines(house, 5), 0);
        due("0, for which the liar vouches, does not", fines(house, 0), 0);
        due("the liar pays VOUCH to none", fines(house, 1), 10 + 8);
        house.come(0, 1, -1);
        house.come(1, 1, 6);
        house.set(4, 0);
        house.open(6);
        due("7 pays nothing, as VOUCH is 0", fines(house, 7), 0);
        house.come(0, 1, 7);
        house.come(1, 1, 8);
        house.set(4, 99);
        house.open(8);
        due("9 pays 99, as VOUCH is", fines(house, 9), 99);
    }

    @Sentence(under = "OPENING, CLEARING", says = "A cart whose rope is not whole pays a fine of 3"
            + " more, honest or not.")
    static void openingOnABrokenRopeCosts3MoreHonestOrNot() {
        RopeSeals house = singles(1);
        honestOnBrokenRope(house, 5, 0);
        house.open(1);
        due("an honest one pays", fines(house, 1), 3);
        house.come(6, 5, 0);
        house.alter(2, 7);
        house.open(2);
        due("a liar pays", fines(house, 2), 10 + 4 + 3);
        house.come(8, 8, 0);
        house.open(3);
        due("one on a whole rope pays", fines(house, 3), 0);
        house.come(9, 9, 3);
        house.set(0, 30);
        house.come(2, 2, 4);
        house.open(5);
        due("one on a whole rope, down to a broken one, pays", fines(house, 5), 0);
        due("nor does that one, as it is not opened", fines(house, 4), 0);
    }

    @Sentence(under = "OPENING, CLEARING", says = "Each cart pays its claim as a toll as it comes;"
            + " altering the claim changes nothing of that.")
    static void openingTollIsTheClaimAsItComes() {
        RopeSeals house = new RopeSeals();
        house.come(0, 50, -1);
        due("toll of a claim of 0", house.total(10), 0);
        house.come(99, 50, -1);
        due("tolls", house.total(10), 99);
        house.alter(0, 70);
        house.alter(1, 0);
        due("tolls after the claims were altered", house.total(10), 99);
        house.openAll();
        due("tolls after the carts were opened", house.total(10), 99);
        for (int cart = 2; cart < 24; cart++) {
            house.come(99, 99, -1);
        }
        due("tolls of 24 carts", house.total(10), 23 * 99);
    }

    // ---- promise 5

    @Sentence(under = "Promise 5: open", says = "This is a change.")
    static void promise5IsAChange() {
        RopeSeals house = new RopeSeals();
        house.come(1, 2, -1);
        due("open(0)", house.open(0), 0);
        due("states after the answer 0", states(house), 2);
        house.undo();
        due("opened, after undo()", house.total(6), 0);
        due("fines, after undo()", house.total(11), 0);
    }

    @Sentence(under = "Promise 5: open", says = "Returns how many carts are cleared by that that"
            + " were not")
    static void promise5ReturnsHowManyAreClearedThatWereNot() {
        RopeSeals house = chainOf(6);
        due("open(2)", house.open(2), 3);
        due("open(1), which was cleared already", house.open(1), 0);
        due("open(5), down to three that were cleared", house.open(5), 3);
        house.come(9, 1, 5);
        due("open(6), a liar", house.open(6), 0);
        due("cleared", house.total(7), 6);
    }

    @Sentence(under = "Promise 5: open", says = "UNKNOWN")
    static void promise5Unknown() {
        RopeSeals house = chainOf(2);
        for (int cart : NOT_OF_TWO) {
            due("open(" + cart + ")", house.open(cart), UNKNOWN);
        }
        due("opened", house.total(6), 0);
        due("open(1)", house.open(1), 2);
    }

    @Sentence(under = "Promise 5: open", says = "NOT_POSSIBLE if it was opened")
    static void promise5NotPossibleIfItWasOpened() {
        RopeSeals house = chainOf(2);
        house.come(9, 1, -1);
        house.open(1);
        house.open(2);
        String before = seen(house);
        due("open(1), honest", house.open(1), NOT_POSSIBLE);
        due("open(2), a liar", house.open(2), NOT_POSSIBLE);
        holds("nothing changed", seen(house).equals(before));
        due("open(0), cleared, but not opened", house.open(0), 0);
    }

    @Sentence(under = "Promise 5: open", says = "UNKNOWN; NOT_POSSIBLE if it was opened.")
    static void promise5OrderOfErrors() {
        RopeSeals house = chainOf(24);
        for (int cart = 0; cart < 24; cart++) {
            house.open(cart);
        }
        due("open(24), all were opened", house.open(24), UNKNOWN);
        due("open(32), all were opened", house.open(32), UNKNOWN);
        due("open(-1), all were opened", house.open(-1), UNKNOWN);
    }

    // ---- promise 6

    @Sentence(under = "Promise 6: openAll", says = "Opens carts as long as one is neither cleared"
            + " nor opened")
    static void promise6AsLongAsOneIsNeitherClearedNorOpened() {
        RopeSeals house = new RopeSeals();
        for (int cart = 0; cart < 24; cart++) {
            house.come(0, 1, cart - 1);
        }
        due("24 liars", house.openAll(), 24);
        due("cleared", house.total(7), 0);

        house = new RopeSeals();
        house.come(1, 9, -1);
        house.come(1, 1, 0);
        house.come(1, 9, 1);
        house.come(1, 1, 0);
        due("2 lies, so that 1 is opened, too", house.openAll(), 3);
        due("0 lies, but is cleared, and not opened", house.cart(0, 6), 0);
        due("0 is cleared", isCleared(house, 0), 1);
        due("1 was opened", house.cart(1, 6), 1);
        due("2 was opened", house.cart(2, 6), 1);
        due("3 was opened", house.cart(3, 6), 1);
    }

    @Sentence(under = "Promise 6: openAll", says = "each time the one of these with the greatest"
            + " number")
    static void promise6EachTimeTheOneWithTheGreatestNumber() {
        RopeSeals house = chainOf(24);
        due("a chain", house.openAll(), 1);
        due("23 was opened", house.cart(23, 6), 1);
        due("0 was not", house.cart(0, 6), 0);

        house = chainOf(4);
        house.open(3);
        house.come(9, 9, -1);
        house.come(8, 8, -1);
        house.come(7, 7, 4);
        house.open(6);
        due("the greatest one that is neither", house.openAll(), 1);
        due("5 was opened", house.cart(5, 6), 1);
        due("4 was not", house.cart(4, 6), 0);
    }

    @Sentence(under = "Promise 6: openAll", says = "This is one change.")
    static void promise6IsOneChange() {
        RopeSeals house = singles(3);
        due("openAll()", house.openAll(), 3);
        due("states", states(house), 4);
        due("undo()", house.undo(), 3);
        due("opened", house.total(6), 0);
        due("carts", house.total(5), 3);
        due("undo()", house.undo(), 2);
        due("carts", house.total(5), 2);
    }

    @Sentence(under = "Promise 6: openAll", says = "Returns how many are opened")
    static void promise6ReturnsHowManyAreOpened() {
        due("one", singles(1).openAll(), 1);
        due("24", singles(24).openAll(), 24);
        RopeSeals house = singles(5);
        house.open(3);
        due("four, as one was opened", house.openAll(), 4);
    }

    @Sentence(under = "Promise 6: openAll", says = "NONE if there is none")
    static void promise6NoneIfThereIsNone() {
        RopeSeals house = new RopeSeals();
        due("without carts", house.openAll(), NONE);
        due("states", states(house), 0);
        house.come(5, 5, -1);
        house.come(6, 6, 0);
        house.open(1);
        due("all are cleared, one is opened", house.openAll(), NONE);
        house.come(7, 1, -1);
        house.open(2);
        String before = seen(house);
        due("all are cleared or opened", house.openAll(), NONE);
        holds("nothing changed", seen(house).equals(before));
    }
}
