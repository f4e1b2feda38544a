/**
 * Long runs of mixed calls, the same ones on the program and on the model. The runs are
 * always the same: their numbers come from a plain formula, not from a clock.
 */
public final class ModelTest {
    /** The document promises nothing about an object after so many calls. */
    private static final int MOST_CALLS = 512;
    /** A turn of a mixed run may type an order, a ";" ahead of it, and perform it. */
    private static final int MOST_CALLS_OF_A_TURN = 12;
    private static final int[] EDGES = {
        -2147483648, -1000, -6, -5, -2, -1, 0, 1, 9, 10, 23, 24, 25, 32, 99, 100, 999, 1000,
        2147483647};
    private static final String LETTERS = "coxs0123456789/>=;";

    private static long seed = 1;

    private RopeSeals program = new RopeSeals();
    private Model model = new Model();
    private int run = 0;
    private int calls = 0;
    private boolean lies = false;
    private boolean smallModulus = false;

    private ModelTest() {
    }

    public static void main(String[] args) {
        ModelTest test = new ModelTest();
        for (int run = 0; run < 6000; run++) {
            test.mixedRun(run);
        }
        for (int run = 6000; run < 12000; run++) {
            test.shortRunWithFullLook(run);
        }
        Due.finish();
    }

    /** A number from 0 to bound - 1. */
    private static int pick(int bound) {
        seed = seed * 6364136223846793005L + 1442695040888963407L;
        return (int) ((seed >>> 33) % bound);
    }

    private static boolean oneIn(int chances) {
        return pick(chances) == 0;
    }

    private void start(int number) {
        program = new RopeSeals();
        model = new Model();
        run = number;
        calls = 0;
        lies = oneIn(2);
        smallModulus = oneIn(2);
    }

    private void same(String call, int got, int want) {
        calls++;
        Due.due("run " + run + ": " + call, got, want);
    }

    private void mixedRun(int number) {
        start(number);
        while (calls + MOST_CALLS_OF_A_TURN <= MOST_CALLS) {
            if (oneIn(2)) {
                change();
            } else if (oneIn(8)) {
                historyCall();
            } else if (oneIn(4)) {
                textCall();
            } else {
                look();
            }
        }
    }

    private void shortRunWithFullLook(int number) {
        start(number);
        int changes = 1 + pick(60);
        for (int i = 0; i < changes; i++) {
            change();
        }
        if (oneIn(3)) {
            historyCall();
        }
        int carts = Math.min(model.total(5), 16);
        for (int cart = 0; cart < carts; cart++) {
            for (int what = 0; what <= 12; what++) {
                same("cart(" + cart + ", " + what + ")", program.cart(cart, what),
                        model.cart(cart, what));
            }
            for (int what = 0; what <= 2; what++) {
                same("ifOpened(" + cart + ", " + what + ")", program.ifOpened(cart, what),
                        model.ifOpened(cart, what));
            }
            same("brokenIn(" + cart + ")", program.brokenIn(cart), model.brokenIn(cart));
            same("sameSeal(" + cart + ")", program.sameSeal(cart), model.sameSeal(cart));
        }
        for (int what = -1; what <= 17; what++) {
            same("total(" + what + ")", program.total(what), model.total(what));
        }
        same("fewestOpenings(0)", program.fewestOpenings(0), model.fewestOpenings(0));
        same("fewestOpenings(1)", program.fewestOpenings(1), model.fewestOpenings(1));
        same("bestOpening()", program.bestOpening(), model.bestOpening());
        Due.holds("run " + run + " keeps to " + MOST_CALLS + " calls", calls <= MOST_CALLS);
        if (model.total(5) <= 8) {
            int fewest = model.fewestByTrying();
            same("fewestOpenings(0), by trying", program.fewestOpenings(0), fewest);
            same("fewestOpenings(1), by trying", program.fewestOpenings(1), fewest);
        }
    }

    // ---- arguments: mostly sensible ones, now and then an edge or nonsense

    private int someCart() {
        if (oneIn(20)) {
            return EDGES[pick(EDGES.length)];
        }
        int carts = model.total(5);
        return carts == 0 ? 0 : pick(carts);
    }

    private int someClaim() {
        if (oneIn(20)) {
            return EDGES[pick(EDGES.length)];
        }
        return oneIn(2) ? pick(100) : pick(10);
    }

    private int someValue(int setting) {
        if (oneIn(10)) {
            return EDGES[pick(EDGES.length)];
        }
        if (setting == 2) {
            return smallModulus ? 10 + pick(4) : 10 + pick(990);
        }
        return pick(100);
    }

    // ---- calls

    private void change() {
        int kind = pick(20);
        if (kind < 8) {
            come();
        } else if (kind < 11) {
            int cart = someCart();
            int claim = someClaim();
            same("alter(" + cart + ", " + claim + ")", program.alter(cart, claim),
                    model.alter(cart, claim));
        } else if (kind < 14) {
            int cart = someCart();
            same("reseal(" + cart + ")", program.reseal(cart), model.reseal(cart));
        } else if (kind < 18) {
            int cart = someCart();
            same("open(" + cart + ")", program.open(cart), model.open(cart));
        } else if (oneIn(4)) {
            same("openAll()", program.openAll(), model.openAll());
        } else {
            int setting = oneIn(10) ? EDGES[pick(EDGES.length)] : pick(5);
            int value = someValue(setting);
            same("set(" + setting + ", " + value + ")", program.set(setting, value),
                    model.set(setting, value));
        }
    }

    private void come() {
        int claim = someClaim();
        int load = lies && oneIn(2) ? someClaim() : claim;
        int vouchFor = oneIn(5) ? -1 : someCart();
        same("come(" + claim + ", " + load + ", " + vouchFor + ")",
                program.come(claim, load, vouchFor), model.come(claim, load, vouchFor));
    }

    private void historyCall() {
        int kind = pick(4);
        if (kind < 2) {
            same("undo()", program.undo(), model.undo());
        } else if (kind == 2) {
            same("keep()", program.keep(), model.keep());
        } else {
            same("restore()", program.restore(), model.restore());
        }
    }

    private void textCall() {
        if (oneIn(3)) {
            same("clearText()", program.clearText(), model.clearText());
        } else if (oneIn(3)) {
            typeCharacter(oneIn(5) ? (char) pick(65536) : LETTERS.charAt(pick(LETTERS.length())));
        } else {
            typeOrder();
        }
        if (oneIn(2)) {
            same("perform()", program.perform(), model.perform());
        }
    }

    private void typeOrder() {
        String order;
        int kind = pick(4);
        if (kind == 0) {
            int claim = pick(12);
            order = "c" + claim + "/" + (lies ? pick(12) : claim) + (oneIn(2) ? "" : ">" + pick(26));
        } else if (kind == 1) {
            order = "o" + pick(25);
        } else if (kind == 2) {
            order = "x" + pick(25) + "=" + pick(103);
        } else {
            order = "s" + pick(25);
        }
        if (model.total(16) > 0) {
            typeCharacter(';');
        }
        for (int i = 0; i < order.length(); i++) {
            typeCharacter(order.charAt(i));
        }
    }

    private void typeCharacter(char character) {
        same("type(" + (int) character + ")", program.type(character), model.type(character));
    }

    private void look() {
        int kind = pick(12);
        int cart = someCart();
        if (kind < 4) {
            int what = oneIn(20) ? EDGES[pick(EDGES.length)] : pick(14);
            same("cart(" + cart + ", " + what + ")", program.cart(cart, what),
                    model.cart(cart, what));
        } else if (kind == 4) {
            int rank = oneIn(10) ? EDGES[pick(EDGES.length)] : pick(6);
            same("chain(" + cart + ", " + rank + ")", program.chain(cart, rank),
                    model.chain(cart, rank));
        } else if (kind == 5) {
            same("brokenIn(" + cart + ")", program.brokenIn(cart), model.brokenIn(cart));
        } else if (kind < 8) {
            int what = oneIn(20) ? EDGES[pick(EDGES.length)] : pick(18);
            same("total(" + what + ")", program.total(what), model.total(what));
        } else if (kind == 8) {
            int what = oneIn(20) ? EDGES[pick(EDGES.length)] : pick(3);
            same("ifOpened(" + cart + ", " + what + ")", program.ifOpened(cart, what),
                    model.ifOpened(cart, what));
        } else if (kind == 9) {
            int way = oneIn(10) ? EDGES[pick(EDGES.length)] : pick(2);
            same("fewestOpenings(" + way + ")", program.fewestOpenings(way),
                    model.fewestOpenings(way));
        } else if (kind == 10) {
            same("bestOpening()", program.bestOpening(), model.bestOpening());
        } else {
            same("sameSeal(" + cart + ")", program.sameSeal(cart), model.sameSeal(cart));
        }
    }
}
