/** Promises 11 to 13: undo, and the snapshot. */
public final class HistoryTest {
    private HistoryTest() {
    }

    public static void main(String[] args) {
        promise11();
        promise11WhatIsRecorded();
        promise11EveryKindOfChange();
        promise12();
        promise13();
        promise13IsAChange();
        Due.finish();
    }

    private static void due(String call, long got, long want) {
        Due.due(call, got, want);
    }

    private static void promise11() {
        RopeSeals house = new RopeSeals();
        due("11: undo(), nothing there", house.undo(), -5);
        house.come(1, 1, -1);
        due("11: undo()", house.undo(), 0);
        due("11: no cart", house.total(5), 0);
        due("11: no toll", house.total(10), 0);
        due("11: undo(), nothing left", house.undo(), -5);
        for (int claim = 1; claim <= 7; claim++) {
            house.come(claim, claim, -1);
            due("11: states after " + claim, house.total(15), Math.min(claim, 4));
        }
        for (int left = 3; left >= 0; left--) {
            due("11: undo()", house.undo(), left);
            due("11: carts", house.total(5), left + 3);
        }
        due("11: undo(), the older ones were dropped", house.undo(), -5);
        due("11: tolls", house.total(10), 6);
        due("11: a cart comes again", house.come(9, 9, 2), 3);
        due("11: states", house.total(15), 1);

        house = new RopeSeals();
        house.come(8, 3, -1);
        house.come(4, 4, 0);
        house.open(1);
        house.open(0);
        house.set(3, 20);
        due("11: undo()", house.undo(), 3);
        due("11: FINE", house.total(3), 10);
        due("11: fines", house.total(11), 25);
        due("11: undo()", house.undo(), 2);
        due("11: fines", house.total(11), 0);
        due("11: no lie", house.total(8), 0);
        due("11: cleared", house.total(7), 2);
        due("11: open(0), again", house.open(0), 0);
        due("11: fines", house.total(11), 25);
        due("11: undo()", house.undo(), 2);
        due("11: undo()", house.undo(), 1);
        due("11: none is cleared", house.total(7), 0);
        due("11: none is opened", house.total(6), 0);
    }

    private static void promise11WhatIsRecorded() {
        RopeSeals house = new RopeSeals();
        house.come(5, 5, -1);
        house.come(100, 5, -1);
        house.alter(0, 5);
        house.alter(0, -1);
        house.reseal(0);
        house.open(7);
        house.set(0, 31);
        house.set(9, 9);
        house.restore();
        house.perform();
        house.keep();
        house.type('o');
        house.clearText();
        house.cart(0, 1);
        house.ifOpened(0, 1);
        house.fewestOpenings(1);
        due("11: one state, for the one change", house.total(15), 1);
        house.alter(0, 6);
        due("11: states", house.total(15), 2);
        house.reseal(0);
        due("11: states", house.total(15), 3);
        house.openAll();
        due("11: states", house.total(15), 4);
        Due.typeAll(house, "o1");
        due("11: undo()", house.undo(), 3);
        due("11: the text is no part of the state", house.total(16), 2);
        due("11: not opened", house.cart(0, 6), 0);
        due("11: undo()", house.undo(), 2);
        due("11: not resealed", house.cart(0, 5), 0);
        due("11: undo()", house.undo(), 1);
        due("11: not altered", house.cart(0, 0), 5);
    }

    private static int change(RopeSeals house, int kind) {
        switch (kind) {
            case 0:
                return house.come(3, 3, 1);
            case 1:
                return house.alter(1, 40);
            case 2:
                return house.reseal(0);
            case 3:
                return house.open(2);
            case 4:
                return house.openAll();
            case 5:
                return house.set(1, 60);
            case 6:
                return Due.perform(house, "c1/1;o1");
            default:
                return house.restore();
        }
    }

    private static void promise11EveryKindOfChange() {
        for (int kind = 0; kind <= 7; kind++) {
            RopeSeals house = new RopeSeals();
            house.come(5, 5, -1);
            house.keep();
            house.come(6, 2, 0);
            house.come(7, 7, 1);
            house.set(3, 33);
            house.alter(0, 9);
            String before = Edges.stateOf(house);
            Due.holds("11: change " + kind, change(house, kind) >= 0);
            Due.holds("11: change " + kind + " is seen", !Edges.stateOf(house).equals(before));
            due("11: undo() of change " + kind, house.undo(), 3);
            Due.holds("11: change " + kind + " is undone", Edges.stateOf(house).equals(before));
        }
    }

    private static void promise12() {
        RopeSeals house = new RopeSeals();
        due("12: keep(), no cart", house.keep(), 0);
        due("12: a snapshot of no carts is one", house.restore(), 0);
        house.come(1, 1, -1);
        house.come(2, 2, 0);
        due("12: keep()", house.keep(), 2);
        due("12: keep() is no change", house.total(15), 3);
        house.come(3, 3, 1);
        house.alter(0, 9);
        due("12: restore()", house.restore(), 2);
        due("12: claim", house.cart(0, 0), 1);
        house.come(4, 4, 1);
        due("12: keep(), in place of the earlier one", house.keep(), 3);
        house.alter(2, 50);
        due("12: restore()", house.restore(), 3);
        due("12: claim", house.cart(2, 0), 4);
    }

    private static void promise13() {
        RopeSeals house = new RopeSeals();
        house.come(7, 7, -1);
        due("13: restore(), no snapshot", house.restore(), -5);
        due("13: nothing changed", house.total(5), 1);
        due("13: no change", house.total(15), 1);
        house.come(8, 2, 0);
        house.set(4, 9);
        house.alter(0, 6);
        house.open(1);
        house.keep();
        house.undo();
        house.undo();
        house.reseal(1);
        house.come(1, 1, -1);
        house.open(2);
        house.set(4, 50);
        for (int again = 0; again < 2; again++) {
            due("13: restore()", house.restore(), 2);
            due("13: VOUCH", house.total(4), 9);
            due("13: claim", house.cart(0, 0), 6);
            due("13: rope", house.cart(0, 5), 0);
            due("13: rope", house.cart(1, 5), 1);
            due("13: opened", house.total(6), 1);
            due("13: liars", house.total(8), 1);
            due("13: fines", house.total(11), 22);
            due("13: tolls", house.total(10), 15);
            house.openAll();
            house.alter(0, 99);
            house.set(4, 1);
            house.come(3, 3, 1);
        }
    }

    private static void promise13IsAChange() {
        RopeSeals house = new RopeSeals();
        house.keep();
        house.come(7, 7, -1);
        Due.typeAll(house, "o0");
        due("13: restore()", house.restore(), 0);
        due("13: a change", house.total(15), 2);
        due("13: the text stays", house.total(16), 2);
        due("13: undo()", house.undo(), 1);
        due("13: the cart is there", house.total(5), 1);
        due("13: undo()", house.undo(), 0);
        due("13: it is not", house.total(5), 0);
        due("13: the snapshot stays", house.restore(), 0);
        due("13: a change, even if all is as it was", house.total(15), 1);
    }
}
