import java.io.IOException;

/** Sentences of HISTORY, and of the promises 11 to 13. */
public final class HistoryEdgesTest extends Edges {
    private HistoryEdgesTest() {
    }

    public static void main(String[] args) throws IOException, ReflectiveOperationException {
        runAll(HistoryEdgesTest.class);
    }

    // ---- history

    @Sentence(under = "HISTORY", says = "A history of at most 4 states is kept.")
    static void historyAtMost4States() {
        RopeSeals house = new RopeSeals();
        for (int changes = 1; changes <= 6; changes++) {
            house.come(1, 1, -1);
            due("states after " + changes, states(house), Math.min(changes, 4));
        }
        for (int left = 3; left >= 0; left--) {
            due("undo()", house.undo(), left);
        }
        due("undo(), the fifth", house.undo(), NONE);
    }

    @Sentence(under = "HISTORY", says = "Each call of a method that is described as a change, and"
            + " that returns neither an error nor NONE, records the state before it")
    static void historyEachChangeRecordsTheStateBeforeIt() {
        RopeSeals house = new RopeSeals();
        house.come(5, 5, -1);
        house.alter(0, 6);
        house.reseal(0);
        house.alter(0, 5);
        due("undo() of alter", house.undo(), 3);
        due("claim", house.cart(0, 0), 6);
        due("undo() of reseal", house.undo(), 2);
        due("rope", isWhole(house, 0), 0);
        due("undo() of alter", house.undo(), 1);
        due("claim", house.cart(0, 0), 5);
        house.keep();
        house.open(0);
        house.set(3, 11);
        house.restore();
        due("undo() of restore", house.undo(), 3);
        due("FINE", house.total(3), 11);
        due("undo() of set", house.undo(), 2);
        due("FINE", house.total(3), 10);
        due("undo() of open", house.undo(), 1);
        due("opened", house.total(6), 0);
        house.openAll();
        Due.perform(house, "c1/1");
        due("undo() of perform", house.undo(), 2);
        due("carts", house.total(5), 1);
        due("undo() of openAll", house.undo(), 1);
        due("opened", house.total(6), 0);
        due("undo() of come", house.undo(), 0);
        due("carts", house.total(5), 0);
    }

    @Sentence(under = "HISTORY", says = "that returns neither an error nor NONE")
    static void historyErrorsAndNoneAreNotRecorded() {
        RopeSeals house = chainOf(2);
        house.open(1);
        due("states", states(house), 3);
        house.come(1, 1, 5);
        house.come(100, 1, 0);
        house.alter(9, 9);
        house.alter(0, 100);
        house.alter(1, 9);
        house.alter(0, 0);
        house.reseal(9);
        house.reseal(0);
        house.open(9);
        house.open(1);
        house.openAll();
        house.set(9, 9);
        house.set(2, 9);
        house.set(2, 97);
        house.restore();
        Due.perform(house, "o");
        Due.perform(house, "o9");
        due("states", states(house), 3);
        due("undo()", house.undo(), 2);
        due("opened", house.total(6), 0);
    }

    @Sentence(under = "HISTORY", says = "Each call of a method that is described as a change")
    static void historyOtherCallsAreNotRecorded() {
        RopeSeals house = chainOf(2);
        Due.typeAll(house, "o1");
        house.keep();
        house.clearText();
        house.cart(1, 4);
        house.chain(1, 1);
        house.brokenIn(1);
        house.total(11);
        house.ifOpened(1, 0);
        house.fewestOpenings(0);
        house.fewestOpenings(1);
        house.bestOpening();
        house.sameSeal(1);
        due("states", states(house), 2);
        due("undo(), which is no change", house.undo(), 1);
        due("states", states(house), 1);
        due("carts", house.total(5), 1);
    }

    @Sentence(under = "HISTORY", says = "if there are 4 already, the oldest one is dropped.")
    static void historyTheOldestOneIsDropped() {
        RopeSeals house = new RopeSeals();
        for (int value = 20; value < 25; value++) {
            house.set(3, value);
        }
        for (int value = 23; value >= 20; value--) {
            house.undo();
            due("FINE", house.total(3), value);
        }
        due("undo(), 10 was dropped", house.undo(), NONE);
        due("FINE", house.total(3), 20);

        house = new RopeSeals();
        for (int value = 20; value < 24; value++) {
            house.set(3, value);
        }
        house.set(3, 23);
        house.set(3, 100);
        for (int left = 3; left >= 0; left--) {
            due("undo(), as calls that are not recorded drop none", house.undo(), left);
        }
        due("FINE", house.total(3), 10);
    }

    @Sentence(under = "HISTORY", says = "There is one snapshot, empty at first.")
    static void historyOneSnapshotEmptyAtFirst() {
        RopeSeals house = chainOf(2);
        due("restore()", house.restore(), NONE);
        due("carts", house.total(5), 2);
        house.keep();
        house.come(5, 5, -1);
        house.keep();
        house.undo();
        due("restore(), the later one", house.restore(), 3);
    }

    @Sentence(under = "HISTORY", says = "The state is everything except the text, the history and"
            + " the snapshot.")
    static void historyTheStateIsEverythingExceptTextHistorySnapshot() {
        RopeSeals house = chainOf(1);
        house.keep();
        Due.typeAll(house, "s0");
        house.come(5, 5, 0);
        house.clearText();
        house.type('x');
        due("undo()", house.undo(), 1);
        due("the text after undo()", house.total(16), 1);
        due("restore()", house.restore(), 1);
        due("the text after restore()", house.total(16), 1);
        due("the history after restore()", states(house), 2);
        house.undo();
        house.undo();
        due("carts", house.total(5), 0);
        due("the snapshot after undo()", house.restore(), 1);
    }

    /** Of everything something that is not as it was at first. */
    private static RopeSeals mixedHouse() {
        RopeSeals house = new RopeSeals();
        house.come(5, 5, -1);
        house.come(7, 3, 0);
        house.come(9, 9, 1);
        house.come(6, 5, 0);
        house.set(4, 8);
        house.alter(0, 6);
        house.open(3);
        return house;
    }

    @Sentence(under = "HISTORY", says = "The state is everything")
    static void historyUndoRestoresEverything() {
        String old = stateOf(mixedHouse());
        RopeSeals house = mixedHouse();
        due("perform()", Due.perform(house, "o2;o1;x0=4;s0;c2/2>2"), 5);
        holds("perform() changes the state", !stateOf(house).equals(old));
        house.undo();
        holds("undo() of perform", stateOf(house).equals(old));
        for (int setting = 0; setting < 5; setting++) {
            house = mixedHouse();
            house.set(setting, 77);
            house.undo();
            holds("undo() of set(" + setting + ", 77)", stateOf(house).equals(old));
        }
    }

    @Sentence(under = "HISTORY", says = "The state is everything")
    static void historyRestoreRestoresEverything() {
        String old = stateOf(mixedHouse());
        RopeSeals house = mixedHouse();
        house.keep();
        Due.perform(house, "o2;o1;x0=4;s0;c2/2>2");
        for (int setting = 0; setting < 5; setting++) {
            house.set(setting, 77);
        }
        due("restore()", house.restore(), 4);
        holds("all is as it was", stateOf(house).equals(old));
    }

    // ---- promise 11

    @Sentence(under = "Promise 11: undo", says = "Restores the latest state of the history, and"
            + " removes it from there.")
    static void promise11RestoresTheLatestStateAndRemovesIt() {
        RopeSeals house = new RopeSeals();
        house.come(5, 5, -1);
        house.alter(0, 6);
        house.alter(0, 7);
        house.undo();
        due("claim", house.cart(0, 0), 6);
        due("states", states(house), 2);
        house.undo();
        due("claim", house.cart(0, 0), 5);
        due("states", states(house), 1);
        house.alter(0, 8);
        house.undo();
        due("claim", house.cart(0, 0), 5);
        house.undo();
        due("carts", house.total(5), 0);
        due("a cart comes as the first one again", house.come(1, 1, -1), 0);
    }

    @Sentence(under = "Promise 11: undo", says = "Returns how many states are left")
    static void promise11ReturnsHowManyStatesAreLeft() {
        RopeSeals house = singles(24);
        for (int left = 3; left >= 0; left--) {
            due("undo()", house.undo(), left);
            due("carts", house.total(5), 20 + left);
        }
        house.come(1, 1, -1);
        due("undo(), of the only one", house.undo(), 0);
    }

    @Sentence(under = "Promise 11: undo", says = "NONE if the history is empty")
    static void promise11NoneIfTheHistoryIsEmpty() {
        RopeSeals house = new RopeSeals();
        due("undo() of a new one", house.undo(), NONE);
        house.come(5, 5, -1);
        house.undo();
        due("undo(), none is left", house.undo(), NONE);
        due("carts", house.total(5), 0);
        due("states", states(house), 0);
        house.keep();
        due("undo(), after keep()", house.undo(), NONE);
        house.type('o');
        due("undo(), after type", house.undo(), NONE);
    }

    // ---- promise 12

    @Sentence(under = "Promise 12: keep", says = "Takes a snapshot of the state, in place of an"
            + " earlier one.")
    static void promise12InPlaceOfAnEarlierOne() {
        RopeSeals house = chainOf(3);
        house.keep();
        house.alter(2, 50);
        house.keep();
        house.alter(2, 60);
        house.restore();
        due("claim", house.cart(2, 0), 50);
        house.undo();
        due("claim, after undo()", house.cart(2, 0), 60);
        house.restore();
        due("claim, the snapshot being another than the history", house.cart(2, 0), 50);
    }

    @Sentence(under = "Promise 12: keep", says = "Returns how many carts there are.")
    static void promise12ReturnsHowManyCartsThereAre() {
        RopeSeals house = new RopeSeals();
        due("without carts", house.keep(), 0);
        due("restore()", house.restore(), 0);
        house.come(1, 1, -1);
        due("one", house.keep(), 1);
        due("24", singles(24).keep(), 24);
    }

    // ---- promise 13

    @Sentence(under = "Promise 13: restore", says = "Restores the state of the snapshot, which"
            + " stays.")
    static void promise13TheSnapshotStays() {
        RopeSeals house = chainOf(3);
        house.keep();
        String old = stateOf(house);
        for (int again = 0; again < 3; again++) {
            house.alter(1, 50);
            house.set(0, 60 + again);
            house.open(2);
            house.come(9, 9, 0);
            due("restore()", house.restore(), 3);
            due("claim", house.cart(1, 0), 1);
            due("A", house.total(0), 31);
            due("opened", house.total(6), 0);
            house.undo();
            house.undo();
            due("restore(), after undo()", house.restore(), 3);
            house.undo();
            house.restore();
            holds("all is as it was", stateOf(house).equals(old));
        }
    }

    @Sentence(under = "Promise 13: restore", says = "This is a change.")
    static void promise13IsAChange() {
        RopeSeals house = new RopeSeals();
        house.keep();
        house.come(5, 5, -1);
        due("restore()", house.restore(), 0);
        due("states after the answer 0", states(house), 2);
        due("undo()", house.undo(), 1);
        due("carts", house.total(5), 1);
        house.keep();
        house.restore();
        due("states after a restore of the same state", states(house), 2);
    }

    @Sentence(under = "Promise 13: restore", says = "Returns how many carts there are then")
    static void promise13ReturnsHowManyCartsThereAreThen() {
        RopeSeals house = new RopeSeals();
        house.keep();
        house.come(1, 1, -1);
        due("of none", house.restore(), 0);
        house = singles(24);
        house.keep();
        house.undo();
        due("of 24, from 23", house.restore(), 24);
    }

    @Sentence(under = "Promise 13: restore", says = "NONE if there is no snapshot")
    static void promise13NoneIfThereIsNoSnapshot() {
        RopeSeals house = chainOf(2);
        String before = seen(house);
        due("restore()", house.restore(), NONE);
        holds("nothing changed", seen(house).equals(before));
        house.keep();
        due("restore(), after keep()", house.restore(), 2);
    }
}
