/** Promises 1 to 7: a new object, and the calls that change it. */
public final class ChangesTest {
    private ChangesTest() {
    }

    public static void main(String[] args) {
        promise1();
        promise2();
        promise3();
        promise4();
        promise5Clearing();
        promise5Lies();
        promise6();
        promise7();
        Due.finish();
    }

    private static void due(String call, long got, long want) {
        Due.due(call, got, want);
    }

    private static void promise1() {
        RopeSeals house = new RopeSeals();
        int[] firstValues = {31, 17, 97, 10, 5};
        for (int setting = 0; setting < 5; setting++) {
            due("1: total(" + setting + ")", house.total(setting), firstValues[setting]);
        }
        for (int what = 5; what <= 16; what++) {
            due("1: total(" + what + ")", house.total(what), 0);
        }
        due("1: cart(0, 0)", house.cart(0, 0), -1);
        due("1: openAll()", house.openAll(), -5);
        due("1: bestOpening()", house.bestOpening(), -5);
        due("1: undo()", house.undo(), -5);
        due("1: restore()", house.restore(), -5);
        due("1: perform()", house.perform(), -100);
        RopeSeals other = new RopeSeals();
        other.come(1, 1, -1);
        due("1: another object's carts", house.total(5), 0);
    }

    private static void promise2() {
        RopeSeals house = new RopeSeals();
        due("2: come(5, 5, -1)", house.come(5, 5, -1), 0);
        due("2: seal of 0: 31 * 5 by 97", house.cart(0, 3), 58);
        due("2: come(7, 8, 0)", house.come(7, 8, 0), 1);
        due("2: seal of 1: 31 * 7 + 17 * 58 + 1 by 97", house.cart(1, 3), 40);
        due("2: come(0, 99, 0)", house.come(0, 99, 0), 2);
        due("2: seal of 2: 17 * 58 + 2 by 97", house.cart(2, 3), 18);
        due("2: come(99, 0, -1)", house.come(99, 0, -1), 3);
        due("2: seal of 3: 31 * 99 + 3 by 97", house.cart(3, 3), 65);
        due("2: tolls", house.total(10), 111);
        due("2: fines", house.total(11), 0);
        due("2: each came by a change of its own", house.total(15), 4);
        house.alter(0, 6);
        due("2: come(1, 1, 0)", house.come(1, 1, 0), 4);
        due("2: seal of 4 is made of the seal that 0 has, not its right one", house.cart(4, 3),
                (31 + 17 * 58 + 4) % 97);
        house.set(0, 2);
        house.set(1, 3);
        house.set(2, 10);
        due("2: come(4, 4, 1)", house.come(4, 4, 1), 5);
        due("2: seal of 5 by other settings", house.cart(5, 3), (2 * 4 + 3 * 40 + 5) % 10);
    }

    private static void promise3() {
        RopeSeals house = Edges.chainOf(3);
        int seal = house.cart(1, 3);
        due("3: alter(1, 9)", house.alter(1, 9), 1);
        due("3: claim", house.cart(1, 0), 9);
        due("3: the seal stays", house.cart(1, 3), seal);
        due("3: right seal", house.cart(1, 4), (31 * 9 + 1) % 97);
        due("3: the rope is not whole", house.cart(1, 5), 0);
        due("3: nor does the seal of another rope change", house.cart(2, 5), 1);
        due("3: tolls stay", house.total(10), 3);
        due("3: alter(1, 9), again", house.alter(1, 9), -5);
        due("3: alter(1, 1)", house.alter(1, 1), 9);
        due("3: the rope is whole again", house.cart(1, 5), 1);
        due("3: alter(1, 0)", house.alter(1, 0), 1);
        due("3: alter(1, 99)", house.alter(1, 99), 0);
        due("3: alter(1, 100)", house.alter(1, 100), -2);
        due("3: alter(1, -1)", house.alter(1, -1), -2);
        due("3: alter(3, 100)", house.alter(3, 100), -1);
        due("3: alter(-1, 5)", house.alter(-1, 5), -1);
        due("3: alter(greatest, 5)", house.alter(Integer.MAX_VALUE, 5), -1);
        house.open(2);
        due("3: alter(2, 100), opened", house.alter(2, 100), -2);
        due("3: alter(2, 7), opened", house.alter(2, 7), -4);
        due("3: alter(2, 2), opened", house.alter(2, 2), -4);
        due("3: claim stays", house.cart(2, 0), 2);
    }

    private static void promise4() {
        RopeSeals house = Edges.chainOf(3);
        due("4: reseal(1), whole", house.reseal(1), -5);
        due("4: reseal(3)", house.reseal(3), -1);
        due("4: reseal(-1)", house.reseal(-1), -1);
        due("4: reseal(least)", house.reseal(Integer.MIN_VALUE), -1);
        int seal = house.cart(1, 3);
        house.alter(1, 50);
        due("4: reseal(1)", house.reseal(1), seal);
        due("4: seal", house.cart(1, 3), (31 * 50 + 1) % 97);
        due("4: whole", house.cart(1, 5), 1);
        due("4: the rope to it is not", house.cart(2, 5), 0);
        due("4: reseal(1), again", house.reseal(1), -5);
        house.open(2);
        due("4: an opened cart can get a seal", house.reseal(2), 31 * 2 + 17 * seal + 2 - 97
                * ((31 * 2 + 17 * seal + 2) / 97));
        due("4: whole", house.cart(2, 5), 1);
        house.set(2, 998);
        due("4: by another setting not", house.cart(1, 5), 0);
        due("4: reseal(1), by another setting", house.reseal(1), (31 * 50 + 1) % 97);
        due("4: seal", house.cart(1, 3), (31 * 50 + 1) % 998);
    }

    private static void promise5Clearing() {
        RopeSeals house = Edges.chainOf(5);
        due("5: open(2)", house.open(2), 3);
        for (int cart = 0; cart < 5; cart++) {
            due("5: cleared " + cart, house.cart(cart, 7), cart <= 2 ? 1 : 0);
            due("5: opened " + cart, house.cart(cart, 6), cart == 2 ? 1 : 0);
        }
        due("5: open(1), cleared already", house.open(1), 0);
        due("5: open(4), down to cleared ones", house.open(4), 2);

        house = Edges.chainOf(5);
        house.alter(2, 50);
        due("5: open(4), its chain is broken at 2", house.open(4), 3);
        due("5: 2 is cleared", house.cart(2, 7), 1);
        due("5: 1 is not", house.cart(1, 7), 0);
        house.alter(2, 2);
        due("5: open(3), through cleared ones", house.open(3), 2);
        due("5: none paid", house.total(11), 0);

        house = Edges.chainOf(3);
        house.alter(2, 50);
        house.set(3, 0);
        house.alter(2, 2);
        house.set(0, 30);
        due("5: open(2), whose rope is not whole", house.open(2), 1);
        due("5: it pays 3", house.cart(2, 8), 3);
        due("5: that is all", house.total(11), 3);
        due("5: 1 is not cleared", house.cart(1, 7), 0);
    }

    private static void promise5Lies() {
        RopeSeals house = new RopeSeals();
        house.come(1, 1, -1);
        house.come(10, 3, 0);
        house.come(2, 2, 1);
        house.come(3, 3, 1);
        house.come(4, 9, 1);
        house.alter(3, 8);
        due("5: open(2)", house.open(2), 3);
        due("5: open(1), a lie", house.open(1), 0);
        due("5: it is cleared no more", house.cart(1, 7), 0);
        due("5: it pays 10 and 2 for each of 7", house.cart(1, 8), 24);
        due("5: 2 pays, cleared or not", house.cart(2, 8), 5);
        due("5: 3 does not, its rope is not whole", house.cart(3, 8), 0);
        due("5: 4 pays", house.cart(4, 8), 5);
        due("5: 0 does not", house.cart(0, 8), 0);
        due("5: 0 stays cleared", house.cart(0, 7), 1);
        due("5: open(4), a lie that tells too few", house.open(4), 0);
        due("5: its fines", house.cart(4, 8), 5 + 10 + 10);
        due("5: open(3), a lie on a broken rope", house.open(3), 0);
        due("5: its fines", house.cart(3, 8), 10 + 10 + 3);
        due("5: found to lie", house.total(8), 3);

        house = new RopeSeals();
        house.come(1, 0, -1);
        house.come(2, 0, 0);
        house.open(1);
        house.open(0);
        due("5: a liar pays for the other that it vouched for, too", house.cart(1, 8), 14 + 5);

        house = Edges.chainOf(2);
        house.come(5, 4, 1);
        house.come(6, 6, 2);
        house.set(3, 99);
        house.set(4, 7);
        house.open(2);
        due("5: FINE as it is set", house.cart(2, 8), 101);
        due("5: VOUCH as it is set", house.cart(3, 8), 7);
        due("5: open(3), through a liar", house.open(3), 3);
        due("5: the liar is not cleared", house.cart(2, 7), 0);
        due("5: those behind it are", house.cart(0, 7), 1);

        house = new RopeSeals();
        house.come(9, 5, -1);
        house.alter(0, 5);
        due("5: it is no lie by the claim of just then", house.open(0), 1);
        due("5: but the rope is not whole", house.cart(0, 8), 3);
    }

    private static void promise6() {
        RopeSeals house = new RopeSeals();
        house.come(1, 1, -1);
        house.come(2, 2, 0);
        house.come(3, 9, 1);
        house.come(4, 4, 0);
        house.come(5, 5, 2);
        house.alter(4, 6);
        due("6: openAll()", house.openAll(), 4);
        due("6: 4 lies", house.cart(4, 8), 10 + 2 + 3);
        due("6: 3 is honest", house.cart(3, 7), 1);
        due("6: 2 lies", house.cart(2, 8), 10 + 12);
        due("6: 1 is opened, as nobody cleared it", house.cart(1, 6), 1);
        due("6: 0 is not, as 3 cleared it", house.cart(0, 6), 0);
        due("6: it was cleared", house.cart(0, 7), 1);
        due("6: one change", house.total(15), 4);
        due("6: openAll(), again", house.openAll(), -5);
        due("6: undo()", house.undo(), 3);
        due("6: none is opened", house.total(6), 0);
        due("6: no fines", house.total(11), 0);

        house = Edges.chainOf(24);
        due("6: openAll(), a chain", house.openAll(), 1);
        due("6: the last one", house.cart(23, 6), 1);
        due("6: all are cleared", house.total(7), 24);
        house = new RopeSeals();
        for (int cart = 0; cart < 24; cart++) {
            house.come(0, 1, -1);
        }
        due("6: openAll(), all lie", house.openAll(), 24);
        due("6: openAll(), none cleared but all opened", house.openAll(), -5);
        due("6: openAll(), without carts", new RopeSeals().openAll(), -5);
    }

    private static void promise7() {
        int[] first = {31, 17, 97, 10, 5};
        int[] least = {1, 1, 10, 0, 0};
        int[] greatest = {99, 99, 999, 99, 99};
        RopeSeals house = new RopeSeals();
        for (int setting = 0; setting < 5; setting++) {
            String call = "7: set(" + setting + ", ";
            due(call + "first)", house.set(setting, first[setting]), -5);
            due(call + "least - 1)", house.set(setting, least[setting] - 1), -2);
            due(call + "greatest + 1)", house.set(setting, greatest[setting] + 1), -2);
            due(call + "least)", house.set(setting, least[setting]), first[setting]);
            due(call + "greatest)", house.set(setting, greatest[setting]), least[setting]);
            due(call + "greatest), again", house.set(setting, greatest[setting]), -5);
            due("7: total(" + setting + ")", house.total(setting), greatest[setting]);
        }
        due("7: set(5, 1)", house.set(5, 1), -1);
        due("7: set(-1, 1)", house.set(-1, 1), -1);
        due("7: set(5, -9)", house.set(5, -9), -1);
        due("7: set(least, least)", house.set(Integer.MIN_VALUE, Integer.MIN_VALUE), -1);
        due("7: set(2, greatest int)", house.set(2, Integer.MAX_VALUE), -2);

        house = Edges.chainOf(2);
        int seal = house.cart(1, 3);
        due("7: set(2, 20)", house.set(2, 20), 97);
        due("7: seals stay", house.cart(1, 3), seal);
        due("7: right seals do not", house.cart(1, 4), (31 + 1) % 20);
        due("7: the rope is not whole", house.cart(1, 5), 0);
        due("7: a change", house.total(15), 3);
        due("7: undo()", house.undo(), 2);
        due("7: M", house.total(2), 97);
    }
}
