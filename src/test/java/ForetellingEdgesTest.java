import java.io.IOException;

/** Sentences of the promises 18 to 21. */
public final class ForetellingEdgesTest extends Edges {
    private ForetellingEdgesTest() {
    }

    public static void main(String[] args) throws IOException, ReflectiveOperationException {
        runAll(ForetellingEdgesTest.class);
    }

    // ---- promise 18

    @Sentence(under = "Promise 18: ifOpened", says = "0 for how many carts would be cleared by that"
            + " that are not, if it is honest (whatever it carries)")
    static void promise18HowManyWouldBeClearedIfItIsHonest() {
        RopeSeals house = chainOf(23);
        house.come(9, 1, 22);
        due("ifOpened(23, 0), though it lies", house.ifOpened(23, 0), 24);
        due("ifOpened(0, 0), itself alone", house.ifOpened(0, 0), 1);
        house.open(2);
        due("ifOpened(23, 0), down to cleared ones", house.ifOpened(23, 0), 21);
        due("ifOpened(1, 0), cleared already", house.ifOpened(1, 0), 0);
        house.alter(20, 50);
        due("ifOpened(23, 0), down to a rope that is not whole", house.ifOpened(23, 0), 4);
        due("ifOpened(20, 0), on a rope that is not whole", house.ifOpened(20, 0), 1);

        house = new RopeSeals();
        house.come(1, 1, -1);
        house.come(2, 9, 0);
        house.come(3, 3, 1);
        house.open(1);
        due("ifOpened(2, 0), through a liar", house.ifOpened(2, 0), 2);
    }

    @Sentence(under = "Promise 18: ifOpened", says = "1 for the fines that would be paid, if it"
            + " carries no sack, by the cart itself")
    static void promise18FinesOfTheCartItselfIfItCarriesNoSack() {
        RopeSeals house = new RopeSeals();
        house.come(0, 50, -1);
        house.come(1, 1, 0);
        house.come(99, 99, 1);
        due("ifOpened(0, 1), no lie, as it claims nothing", house.ifOpened(0, 1), 0);
        due("ifOpened(1, 1), one sack", house.ifOpened(1, 1), 12);
        due("ifOpened(2, 1), 99 sacks", house.ifOpened(2, 1), 208);
        house.alter(1, 2);
        due("ifOpened(1, 1), on a rope that is not whole", house.ifOpened(1, 1), 14 + 3);
        house.alter(1, 0);
        due("ifOpened(1, 1), no lie, but the rope is not whole", house.ifOpened(1, 1), 3);
        house.set(3, 0);
        due("ifOpened(2, 1), FINE is 0", house.ifOpened(2, 1), 198);
        house.open(1);
        due("fines of 2, which 1 made it pay", fines(house, 2), 5);
        due("ifOpened(2, 1), without those", house.ifOpened(2, 1), 198);
    }

    @Sentence(under = "Promise 18: ifOpened", says = "2 for the fines of all others then")
    static void promise18FinesOfAllOthersThen() {
        RopeSeals house = new RopeSeals();
        house.come(5, 5, -1);
        due("ifOpened(0, 2), no cart vouches for it", house.ifOpened(0, 2), 0);
        for (int cart = 1; cart < 24; cart++) {
            house.come(1, 1, 0);
        }
        due("ifOpened(0, 2), 23 vouch for it", house.ifOpened(0, 2), 23 * 5);
        breakRope(house, 23);
        due("ifOpened(0, 2), the rope of one is not whole", house.ifOpened(0, 2), 22 * 5);
        house.open(1);
        due("ifOpened(0, 2), one of them was opened", house.ifOpened(0, 2), 22 * 5);
        house.set(4, 0);
        due("ifOpened(0, 2), VOUCH is 0", house.ifOpened(0, 2), 0);
        house.set(4, 99);
        due("ifOpened(0, 2), VOUCH is 99", house.ifOpened(0, 2), 22 * 99);
    }

    @Sentence(under = "OPENING, CLEARING", says = "found to lie if it does not carry as many sacks"
            + " as it claims just then")
    static void openingForetoldOfOneThatClaimsNothing() {
        RopeSeals house = new RopeSeals();
        house.come(5, 5, -1);
        house.come(1, 1, 0);
        house.alter(0, 0);
        due("ifOpened(0, 2), no lie if it carries no sack", house.ifOpened(0, 2), 0);
        house.alter(0, 1);
        due("ifOpened(0, 2), a lie if it carries no sack", house.ifOpened(0, 2), 5);
    }

    @Sentence(under = "Promise 18: ifOpened", says = "Tells what opening a cart would bring.")
    static void promise18NothingChanges() {
        RopeSeals house = chainOf(3);
        String before = seen(house);
        for (int what = 0; what <= 2; what++) {
            house.ifOpened(2, what);
            holds("nothing is changed by ifOpened(2, " + what + ")", seen(house).equals(before));
        }
    }

    @Sentence(under = "Promise 18: ifOpened", says = "UNKNOWN")
    static void promise18Unknown() {
        RopeSeals house = chainOf(2);
        for (int cart : NOT_OF_TWO) {
            for (int what = 0; what <= 2; what++) {
                due("ifOpened(" + cart + ", " + what + ")", house.ifOpened(cart, what), UNKNOWN);
            }
        }
    }

    @Sentence(under = "Promise 18: ifOpened", says = "OUT_OF_RANGE")
    static void promise18OutOfRange() {
        RopeSeals house = chainOf(2);
        int[] wrong = {-1, 3, 32, LEAST, GREATEST};
        for (int what : wrong) {
            due("ifOpened(1, " + what + ")", house.ifOpened(1, what), OUT_OF_RANGE);
        }
    }

    @Sentence(under = "Promise 18: ifOpened", says = "NOT_POSSIBLE if it was opened")
    static void promise18NotPossibleIfItWasOpened() {
        RopeSeals house = chainOf(3);
        house.come(9, 1, -1);
        house.open(1);
        house.open(3);
        for (int what = 0; what <= 2; what++) {
            due("honest: ifOpened(1, " + what + ")", house.ifOpened(1, what), NOT_POSSIBLE);
            due("a liar: ifOpened(3, " + what + ")", house.ifOpened(3, what), NOT_POSSIBLE);
        }
        due("cleared, but not opened: ifOpened(0, 0)", house.ifOpened(0, 0), 0);
    }

    @Sentence(under = "Promise 18: ifOpened", says = "UNKNOWN; OUT_OF_RANGE; NOT_POSSIBLE if it was"
            + " opened.")
    static void promise18OrderOfErrors() {
        RopeSeals house = chainOf(2);
        house.open(1);
        due("UNKNOWN and OUT_OF_RANGE", house.ifOpened(2, 3), UNKNOWN);
        due("UNKNOWN and OUT_OF_RANGE", house.ifOpened(-1, -1), UNKNOWN);
        due("OUT_OF_RANGE and NOT_POSSIBLE", house.ifOpened(1, 3), OUT_OF_RANGE);
        due("OUT_OF_RANGE and NOT_POSSIBLE", house.ifOpened(1, -1), OUT_OF_RANGE);
    }

    // ---- promise 19

    private static void dueFewest(String when, RopeSeals house, int want) {
        for (int way = 0; way <= 1; way++) {
            due("fewestOpenings(" + way + "), " + when, house.fewestOpenings(way), want);
        }
    }

    @Sentence(under = "Promise 19: fewestOpenings", says = "Tells how few carts must be opened so"
            + " that all that were not opened are cleared, if all of them are honest, with ropes as"
            + " they are.")
    static void promise19HowFewMustBeOpened() {
        dueFewest("without carts", new RopeSeals(), 0);
        dueFewest("one chain", chainOf(24), 1);
        dueFewest("24 alone", singles(24), 24);
        RopeSeals house = new RopeSeals();
        house.come(5, 9, -1);
        house.come(5, 5, 0);
        house.come(5, 9, 1);
        dueFewest("loads are not known", house, 1);
        String before = seen(house);
        house.fewestOpenings(1);
        holds("nothing changed", seen(house).equals(before));
        house.open(2);
        house.openAll();
        dueFewest("all are cleared or opened", house, 0);
    }

    @Sentence(under = "Promise 19: fewestOpenings", says = "told by ends: of the carts that are"
            + " neither cleared nor opened those are counted that no other one of these has in its"
            + " chain with whole ropes, from its own on, down to the cart that vouches for them")
    static void promise19ToldByEnds() {
        RopeSeals house = chainOf(5);
        house.alter(4, 50);
        due("the own rope is not whole", house.fewestOpenings(0), 2);
        house.alter(4, 4);
        house.alter(1, 50);
        due("the rope of the one that vouches is not whole", house.fewestOpenings(0), 2);
        house.alter(1, 1);
        house.alter(0, 50);
        due("the rope of the counted one itself is no matter", house.fewestOpenings(0), 1);
        house.alter(0, 0);
        house.open(4);
        due("all are cleared", house.fewestOpenings(0), 0);

        house = new RopeSeals();
        house.come(1, 1, -1);
        house.come(2, 9, 0);
        house.come(3, 3, 1);
        house.open(1);
        due("through one that was opened", house.fewestOpenings(0), 1);
        house.open(2);
        due("none is left", house.fewestOpenings(0), 0);

        house = chainOf(2);
        house.come(9, 1, 1);
        house.open(2);
        due("one that was opened is not one of these", house.fewestOpenings(0), 1);
        house.set(0, 30);
        due("the rope of 1 is not whole by another A", house.fewestOpenings(0), 2);
    }

    @Sentence(under = "Promise 19: fewestOpenings", says = "told by opening: as long as one is"
            + " neither cleared nor opened, the one of these with the greatest number is opened, as"
            + " an honest one")
    static void promise19ToldByOpening() {
        RopeSeals house = new RopeSeals();
        house.come(5, 9, -1);
        house.come(5, 9, 0);
        house.come(5, 9, 0);
        due("as honest ones, though all would lie", house.fewestOpenings(1), 2);
        house.alter(2, 6);
        due("the rope of the greatest one is not whole", house.fewestOpenings(1), 2);
        house.alter(1, 6);
        due("nor is that of another", house.fewestOpenings(1), 3);
        house.open(2);
        due("one was opened", house.fewestOpenings(1), 2);
        house = chainOf(5);
        house.open(1);
        due("down to cleared ones", house.fewestOpenings(1), 1);
        house.open(4);
        due("all are cleared", house.fewestOpenings(1), 0);
    }

    @Sentence(under = "Promise 19: fewestOpenings", says = "OUT_OF_RANGE")
    static void promise19OutOfRange() {
        RopeSeals house = chainOf(2);
        int[] wrong = {-1, 2, 32, LEAST, GREATEST};
        for (int way : wrong) {
            due("fewestOpenings(" + way + ")", house.fewestOpenings(way), OUT_OF_RANGE);
            due("without carts, fewestOpenings(" + way + ")",
                    new RopeSeals().fewestOpenings(way), OUT_OF_RANGE);
        }
    }

    // ---- promise 20

    @Sentence(under = "Promise 20: bestOpening", says = "Finds the cart by which the most carts"
            + " would be cleared that are not, if it is opened and honest")
    static void promise20ByWhichTheMostWouldBeCleared() {
        RopeSeals house = chainOf(23);
        house.come(9, 1, 22);
        due("the greatest chain, though it lies", house.bestOpening(), 23);
        house.alter(23, 8);
        due("its rope is not whole", house.bestOpening(), 22);
        house.open(20);
        due("those that are cleared do not count", house.bestOpening(), 22);
        house.open(22);
        due("those that were opened cannot be it", house.bestOpening(), 23);
    }

    @Sentence(under = "Promise 20: bestOpening", says = "of several the lowest one")
    static void promise20OfSeveralTheLowestOne() {
        due("24 alone", singles(24).bestOpening(), 0);
        RopeSeals house = new RopeSeals();
        house.come(1, 1, -1);
        house.come(1, 1, 0);
        house.come(1, 1, 0);
        due("two of two", house.bestOpening(), 1);
        house.open(1);
        due("2 would clear itself, 0 none", house.bestOpening(), 2);
        house.open(2);
        due("none would clear any", house.bestOpening(), 0);
        house.open(0);
        house.come(1, 1, -1);
        house.come(1, 1, -1);
        due("two, behind those that were opened", house.bestOpening(), 3);
    }

    @Sentence(under = "Promise 20: bestOpening", says = "NONE if all were opened")
    static void promise20NoneIfAllWereOpened() {
        due("without carts", new RopeSeals().bestOpening(), NONE);
        RopeSeals house = new RopeSeals();
        house.come(1, 1, -1);
        house.come(1, 9, 0);
        house.open(1);
        due("one was not opened", house.bestOpening(), 0);
        house.open(0);
        due("all were opened", house.bestOpening(), NONE);
        house = chainOf(3);
        house.openAll();
        due("all are cleared, but not all opened", house.bestOpening(), 0);
    }

    // ---- promise 21

    /** A = 1, so that a seal is the claim by M, and a cart that vouches for none. */
    private static RopeSeals claims(int claim, int modulus) {
        RopeSeals house = new RopeSeals();
        house.set(0, 1);
        house.set(2, modulus);
        house.come(claim, claim, -1);
        return house;
    }

    @Sentence(under = "Promise 21: sameSeal", says = "Finds another claim of a cart with which its"
            + " right seal would be the same.")
    static void promise21AnotherClaimWithTheSameRightSeal() {
        RopeSeals house = claims(5, 60);
        due("sameSeal(0), not the claim itself", house.sameSeal(0), 65);
        house.alter(0, 65);
        due("sameSeal(0), the other way around", house.sameSeal(0), 5);
        house.alter(0, 7);
        due("sameSeal(0), by its right seal, not by the one it has", house.sameSeal(0), 67);
        house.come(8, 8, 0);
        due("sameSeal(1), of one that vouches", house.sameSeal(1), 68);
        house.open(1);
        due("sameSeal(1), opened", house.sameSeal(1), 68);
        due("claim", house.cart(1, 0), 8);
    }

    @Sentence(under = "Promise 21: sameSeal", says = "Returns the least such claim")
    static void promise21TheLeastSuchClaim() {
        due("of 10, 20 and on", claims(0, 10).sameSeal(0), 10);
        due("of 0, 10 and on, not the nearest", claims(50, 10).sameSeal(0), 0);
        due("of 9, 19 and on, not the nearest", claims(99, 10).sameSeal(0), 9);
        RopeSeals house = new RopeSeals();
        house.set(0, 50);
        house.set(2, 50);
        house.come(0, 0, -1);
        due("all claims have the same seal", house.sameSeal(0), 1);
        house.alter(0, 1);
        due("all claims have the same seal", house.sameSeal(0), 0);
    }

    @Sentence(under = "Promise 21: sameSeal", says = "UNKNOWN")
    static void promise21Unknown() {
        RopeSeals house = chainOf(2);
        for (int cart : NOT_OF_TWO) {
            due("sameSeal(" + cart + ")", house.sameSeal(cart), UNKNOWN);
        }
    }

    @Sentence(under = "Promise 21: sameSeal", says = "NONE if there is none from 0 to 99")
    static void promise21NoneIfThereIsNoneFrom0To99() {
        due("99 is one", claims(0, 99).sameSeal(0), 99);
        due("0 is one", claims(99, 99).sameSeal(0), 0);
        due("100 is none", claims(1, 99).sameSeal(0), NONE);
        due("-1 is none", claims(98, 99).sameSeal(0), NONE);
        due("100 is none, for 0", claims(0, 100).sameSeal(0), NONE);
        due("-1 is none, for 99", claims(99, 100).sameSeal(0), NONE);
        due("nor is any, by 999", claims(50, 999).sameSeal(0), NONE);
    }

    @Sentence(under = "Promise 21: sameSeal", says = "UNKNOWN; NONE if there is none from 0 to 99.")
    static void promise21OrderOfErrors() {
        RopeSeals house = claims(1, 999);
        due("sameSeal(1), by a setting with which no claim has another", house.sameSeal(1),
                UNKNOWN);
    }
}
