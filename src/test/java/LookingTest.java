/** Promises 14 to 17: what there is. */
public final class LookingTest {
    private LookingTest() {
    }

    public static void main(String[] args) {
        promise14();
        promise15();
        promise16();
        promise17();
        Due.finish();
    }

    private static void due(String call, long got, long want) {
        Due.due(call, got, want);
    }

    /** Checks what cart(cart, 0) to cart(cart, 12) answer. */
    private static void dueOfCart(RopeSeals house, int cart, int... wants) {
        for (int what = 0; what <= 12; what++) {
            due("14: cart(" + cart + ", " + what + ")", house.cart(cart, what), wants[what]);
        }
    }

    /**
     * A tree: 0 bears 1 and 2, 1 bears 3, 3 bears 4; 5 stands alone. 1 was altered,
     * 4 was opened and is honest, 2 was opened and lies.
     */
    private static RopeSeals tree() {
        RopeSeals house = new RopeSeals();
        house.come(5, 6, -1);
        house.come(7, 7, 0);
        house.come(9, 4, 0);
        house.come(2, 2, 1);
        house.come(3, 3, 3);
        house.come(0, 8, -1);
        house.alter(1, 8);
        house.open(4);
        house.open(2);
        return house;
    }

    private static void promise14() {
        RopeSeals house = tree();
        dueOfCart(house, 0, 5, -5, -5, 58, 58, 1, 0, 0, 0, 1, 2, 5, 4);
        dueOfCart(house, 1, 8, -5, 0, 40, (31 * 8 + 17 * 58 + 1) % 97, 0, 0, 1, 0, 2, 1, 3, 0);
        int sealOf2 = (31 * 9 + 17 * 58 + 2) % 97;
        dueOfCart(house, 2, 9, 4, 0, sealOf2, sealOf2, 1, 1, 0, 10 + 10, 2, 0, 1, 1);
        int sealOf3 = (31 * 2 + 17 * 40 + 3) % 97;
        dueOfCart(house, 3, 2, -5, 1, sealOf3, sealOf3, 1, 0, 1, 0, 3, 1, 2, 0);
        int sealOf4 = (31 * 3 + 17 * sealOf3 + 4) % 97;
        dueOfCart(house, 4, 3, 3, 3, sealOf4, sealOf4, 1, 1, 1, 0, 4, 0, 1, 0);
        dueOfCart(house, 5, 0, -5, -5, 5, 5, 1, 0, 0, 0, 1, 0, 1, 2);
    }

    private static void promise15() {
        RopeSeals house = tree();
        int[] chain = {4, 3, 1, 0};
        for (int rank = 0; rank < 4; rank++) {
            due("15: chain(4, " + rank + ")", house.chain(4, rank), chain[rank]);
        }
        due("15: chain(4, 4)", house.chain(4, 4), -5);
        due("15: chain(5, 0)", house.chain(5, 0), 5);
        due("15: chain(5, 1)", house.chain(5, 1), -5);
        due("15: chain(0, 24)", house.chain(0, 24), -5);
        due("15: chain(0, greatest)", house.chain(0, Integer.MAX_VALUE), -5);
        due("15: chain(0, -1)", house.chain(0, -1), -2);
        due("15: chain(0, least)", house.chain(0, Integer.MIN_VALUE), -2);
        due("15: chain(6, -1)", house.chain(6, -1), -1);
        due("15: chain(-1, 0)", house.chain(-1, 0), -1);
        house = new RopeSeals();
        for (int cart = 0; cart < 24; cart++) {
            house.come(1, 1, cart - 1);
        }
        due("15: chain(23, 23)", house.chain(23, 23), 0);
        due("15: chain(23, 24)", house.chain(23, 24), -5);
        due("15: depth", house.cart(23, 9), 24);
        due("15: chains", house.cart(0, 11), 24);
    }

    private static void promise16() {
        RopeSeals house = tree();
        due("16: brokenIn(4)", house.brokenIn(4), 1);
        due("16: brokenIn(1)", house.brokenIn(1), 1);
        due("16: brokenIn(0)", house.brokenIn(0), -5);
        due("16: brokenIn(2)", house.brokenIn(2), -5);
        house.alter(3, 9);
        due("16: brokenIn(4), the first from the cart on", house.brokenIn(4), 3);
        house.alter(0, 9);
        due("16: brokenIn(2), the end of the chain", house.brokenIn(2), 0);
        due("16: brokenIn(6)", house.brokenIn(6), -1);
        due("16: brokenIn(-1)", house.brokenIn(-1), -1);
        due("16: brokenIn(greatest)", house.brokenIn(Integer.MAX_VALUE), -1);
    }

    private static void promise17() {
        RopeSeals house = tree();
        Due.typeAll(house, "c5/");
        int[] wants = {31, 17, 97, 10, 5, 6, 2, 3, 1, 1, 26, 20, 4, 3, 7, 4, 3};
        for (int what = 0; what <= 16; what++) {
            due("17: total(" + what + ")", house.total(what), wants[what]);
        }
        due("17: total(17)", house.total(17), -2);
        due("17: total(-1)", house.total(-1), -2);
        due("17: total(least)", house.total(Integer.MIN_VALUE), -2);
        due("17: total(greatest)", house.total(Integer.MAX_VALUE), -2);
        house.come(1, 1, 5);
        house.come(1, 1, 0);
        due("17: total(13), 2, 4, 6 and 7", house.total(13), 4);
        house.come(1, 1, 7);
        house.come(1, 1, 2);
        due("17: total(13), 4, 6, 8 and 9", house.total(13), 4);
        house.come(1, 1, -1);
        due("17: total(13), and 10", house.total(13), 5);
        house = new RopeSeals();
        house.come(3, 4, -1);
        house.open(0);
        house.set(0, 30);
        due("17: total(9), cart 0 counts", house.total(9), 1);
        due("17: total(11), cart 0 counts", house.total(11), 12);
        due("17: total(13), cart 0 counts", house.total(13), 1);
        due("17: total(14), cart 0 counts", house.total(14), 4);
        int[] others = {2, 3, 999, 0, 99};
        for (int setting = 0; setting < 5; setting++) {
            house.set(setting, others[setting]);
            due("17: total(" + setting + ")", house.total(setting), others[setting]);
        }
    }
}
