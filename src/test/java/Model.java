import java.util.ArrayDeque;
import java.util.ArrayList;
import java.util.Deque;
import java.util.List;
import java.util.regex.Matcher;
import java.util.regex.Pattern;

/**
 * The document told a second time, as near to its words as can be and without regard
 * for speed or room, so that the program can be held against it.
 */
final class Model {
    private static final int UNKNOWN = -1;
    private static final int OUT_OF_RANGE = -2;
    private static final int FULL = -3;
    private static final int NOT_POSSIBLE = -4;
    private static final int NONE = -5;

    private static final int[][] RANGES = {{1, 99}, {1, 99}, {10, 999}, {0, 99}, {0, 99}};

    private static final String SACKS = "(?:0|[1-9][0-9]?)";
    private static final String CART = "(?:0|1[0-9]?|2[0-3]?|[3-9])";
    private static final String ORDER = "(?:c" + SACKS + "/" + SACKS + "(?:>" + CART + ")?|o" + CART
            + "|x" + CART + "=" + SACKS + "|s" + CART + ")";
    private static final Pattern TEXT = Pattern.compile(ORDER + "(?:;" + ORDER + ")*");

    private static final class Cart {
        private int number;
        private int claim;
        private int load;
        private int vouchFor;
        private int seal;
        private boolean opened;
        private boolean lied;
        private boolean cleared;
        private int fines;

        private Cart copy() {
            Cart other = new Cart();
            other.number = number;
            other.claim = claim;
            other.load = load;
            other.vouchFor = vouchFor;
            other.seal = seal;
            other.opened = opened;
            other.lied = lied;
            other.cleared = cleared;
            other.fines = fines;
            return other;
        }
    }

    private static final class State {
        private int[] settings = {31, 17, 97, 10, 5};
        private final List<Cart> carts = new ArrayList<>();
        private int tolls = 0;

        private State copy() {
            State other = new State();
            other.settings = settings.clone();
            for (Cart cart : carts) {
                other.carts.add(cart.copy());
            }
            other.tolls = tolls;
            return other;
        }
    }

    private State state = new State();
    private final Deque<State> history = new ArrayDeque<>();
    private State snapshot = null;
    private String text = "";

    // ---- changes

    int come(int claim, int load, int vouchFor) {
        State earlier = state.copy();
        return record(doCome(claim, load, vouchFor), earlier);
    }

    int alter(int cart, int claim) {
        State earlier = state.copy();
        return record(doAlter(cart, claim), earlier);
    }

    int reseal(int cart) {
        State earlier = state.copy();
        return record(doReseal(cart), earlier);
    }

    int open(int cart) {
        State earlier = state.copy();
        return record(doOpen(cart), earlier);
    }

    int openAll() {
        State earlier = state.copy();
        int openings = 0;
        for (Cart next = lastWaiting(); next != null; next = lastWaiting()) {
            doOpen(next.number);
            openings++;
        }
        return record(openings == 0 ? NONE : openings, earlier);
    }

    int set(int setting, int value) {
        if (setting < 0 || setting > 4) {
            return UNKNOWN;
        }
        if (value < RANGES[setting][0] || value > RANGES[setting][1]) {
            return OUT_OF_RANGE;
        }
        int previous = state.settings[setting];
        if (previous == value) {
            return NONE;
        }
        State earlier = state.copy();
        state.settings[setting] = value;
        return record(previous, earlier);
    }

    private int record(int answer, State earlier) {
        if (answer >= 0) {
            history.addLast(earlier);
            if (history.size() > 4) {
                history.removeFirst();
            }
        }
        return answer;
    }

    private int doCome(int claim, int load, int vouchFor) {
        if (vouchFor != -1 && !exists(vouchFor)) {
            return UNKNOWN;
        }
        if (claim < 0 || claim > 99 || load < 0 || load > 99) {
            return OUT_OF_RANGE;
        }
        if (state.carts.size() == 24) {
            return FULL;
        }
        Cart cart = new Cart();
        cart.number = state.carts.size();
        cart.claim = claim;
        cart.load = load;
        cart.vouchFor = vouchFor;
        state.carts.add(cart);
        cart.seal = rightSeal(cart, claim);
        state.tolls += claim;
        return cart.number;
    }

    private int doAlter(int number, int claim) {
        if (!exists(number)) {
            return UNKNOWN;
        }
        if (claim < 0 || claim > 99) {
            return OUT_OF_RANGE;
        }
        Cart cart = state.carts.get(number);
        if (cart.opened) {
            return NOT_POSSIBLE;
        }
        if (cart.claim == claim) {
            return NONE;
        }
        int previous = cart.claim;
        cart.claim = claim;
        return previous;
    }

    private int doReseal(int number) {
        if (!exists(number)) {
            return UNKNOWN;
        }
        Cart cart = state.carts.get(number);
        int previous = cart.seal;
        int right = rightSeal(cart, cart.claim);
        if (previous == right) {
            return NONE;
        }
        cart.seal = right;
        return previous;
    }

    private int doOpen(int number) {
        if (!exists(number)) {
            return UNKNOWN;
        }
        Cart cart = state.carts.get(number);
        if (cart.opened) {
            return NOT_POSSIBLE;
        }
        cart.opened = true;
        if (!isWhole(cart)) {
            cart.fines += 3;
        }
        if (cart.claim == cart.load) {
            return clearFrom(cart);
        }
        cart.lied = true;
        cart.cleared = false;
        cart.fines += state.settings[3] + 2 * Math.abs(cart.claim - cart.load);
        for (Cart other : state.carts) {
            if (other.vouchFor == number && isWhole(other)) {
                other.fines += state.settings[4];
            }
        }
        return 0;
    }

    /** Clears the cart and, down whole ropes, those of its chain; answers how many anew. */
    private int clearFrom(Cart cart) {
        int anew = 0;
        if (!cart.lied && !cart.cleared) {
            cart.cleared = true;
            anew = 1;
        }
        if (isWhole(cart) && cart.vouchFor != -1) {
            anew += clearFrom(state.carts.get(cart.vouchFor));
        }
        return anew;
    }

    private Cart lastWaiting() {
        Cart last = null;
        for (Cart cart : state.carts) {
            if (isWaiting(cart)) {
                last = cart;
            }
        }
        return last;
    }

    // ---- texts

    int type(char character) {
        if (text.length() == 60) {
            return FULL;
        }
        text += character;
        return text.length();
    }

    int clearText() {
        int length = text.length();
        text = "";
        return length;
    }

    int perform() {
        int fault = fault();
        if (fault >= 0) {
            return -100 - fault;
        }
        State earlier = state.copy();
        String[] orders = text.split(";");
        for (String order : orders) {
            int answer = doOrder(order);
            if (answer < 0 && answer != NONE) {
                state = earlier;
                return answer;
            }
        }
        return record(orders.length, earlier);
    }

    /** The fault of the text, or -1: the shortest start of it that no characters can mend. */
    private int fault() {
        if (TEXT.matcher(text).matches()) {
            return -1;
        }
        for (int i = 0; i < text.length(); i++) {
            Matcher start = TEXT.matcher(text.substring(0, i + 1));
            if (!start.matches() && !start.hitEnd()) {
                return i;
            }
        }
        return text.length();
    }

    private int doOrder(String order) {
        String[] parts = order.substring(1).split("[/>=]");
        int[] numbers = new int[parts.length];
        for (int i = 0; i < parts.length; i++) {
            numbers[i] = Integer.parseInt(parts[i]);
        }
        switch (order.charAt(0)) {
            case 'c':
                return doCome(numbers[0], numbers[1], numbers.length == 3 ? numbers[2] : -1);
            case 'o':
                return doOpen(numbers[0]);
            case 'x':
                return doAlter(numbers[0], numbers[1]);
            default:
                return doReseal(numbers[0]);
        }
    }

    // ---- history

    int undo() {
        if (history.isEmpty()) {
            return NONE;
        }
        state = history.removeLast();
        return history.size();
    }

    int keep() {
        snapshot = state.copy();
        return state.carts.size();
    }

    int restore() {
        if (snapshot == null) {
            return NONE;
        }
        State earlier = state.copy();
        state = snapshot.copy();
        return record(state.carts.size(), earlier);
    }

    // ---- what there is

    int cart(int number, int what) {
        if (!exists(number)) {
            return UNKNOWN;
        }
        Cart cart = state.carts.get(number);
        switch (what) {
            case 0:
                return cart.claim;
            case 1:
                return cart.opened ? cart.load : NONE;
            case 2:
                return cart.vouchFor == -1 ? NONE : cart.vouchFor;
            case 3:
                return cart.seal;
            case 4:
                return rightSeal(cart, cart.claim);
            case 5:
                return isWhole(cart) ? 1 : 0;
            case 6:
                return cart.opened ? 1 : 0;
            case 7:
                return cart.cleared ? 1 : 0;
            case 8:
                return cart.fines;
            case 9:
                return chainOf(cart).size();
            case 10:
                return vouchersOf(cart).size();
            case 11:
                return (int) state.carts.stream().filter(c -> chainOf(c).contains(cart)).count();
            case 12:
                return whyNotCleared(cart);
            default:
                return OUT_OF_RANGE;
        }
    }

    private int whyNotCleared(Cart cart) {
        if (cart.cleared) {
            return 0;
        }
        if (cart.lied) {
            return 1;
        }
        if (vouchersOf(cart).isEmpty()) {
            return 2;
        }
        return vouchersOf(cart).stream().noneMatch(c -> c.cleared) ? 3 : 4;
    }

    int chain(int number, int rank) {
        if (!exists(number)) {
            return UNKNOWN;
        }
        if (rank < 0) {
            return OUT_OF_RANGE;
        }
        List<Cart> chain = chainOf(state.carts.get(number));
        return rank < chain.size() ? chain.get(rank).number : NONE;
    }

    int brokenIn(int number) {
        if (!exists(number)) {
            return UNKNOWN;
        }
        for (Cart cart : chainOf(state.carts.get(number))) {
            if (!isWhole(cart)) {
                return cart.number;
            }
        }
        return NONE;
    }

    int total(int what) {
        if (what >= 0 && what <= 4) {
            return state.settings[what];
        }
        switch (what) {
            case 5:
                return state.carts.size();
            case 6:
                return (int) state.carts.stream().filter(c -> c.opened).count();
            case 7:
                return (int) state.carts.stream().filter(c -> c.cleared).count();
            case 8:
                return (int) state.carts.stream().filter(c -> c.lied).count();
            case 9:
                return (int) state.carts.stream().filter(c -> !isWhole(c)).count();
            case 10:
                return state.tolls;
            case 11:
                return state.carts.stream().mapToInt(c -> c.fines).sum();
            case 12:
                return state.carts.stream().mapToInt(c -> chainOf(c).size()).max().orElse(0);
            case 13:
                return (int) state.carts.stream().filter(c -> vouchersOf(c).isEmpty()).count();
            case 14:
                return state.carts.stream().filter(c -> c.opened).mapToInt(c -> c.load).sum();
            case 15:
                return history.size();
            case 16:
                return text.length();
            default:
                return OUT_OF_RANGE;
        }
    }

    // ---- what would be

    int ifOpened(int number, int what) {
        if (!exists(number)) {
            return UNKNOWN;
        }
        if (what < 0 || what > 2) {
            return OUT_OF_RANGE;
        }
        if (state.carts.get(number).opened) {
            return NOT_POSSIBLE;
        }
        State real = state;
        state = real.copy();
        Cart tried = state.carts.get(number);
        tried.load = what == 0 ? tried.claim : 0;
        int ownFines = tried.fines;
        int allFines = total(11);
        int anew = doOpen(number);
        ownFines = tried.fines - ownFines;
        allFines = total(11) - allFines;
        state = real;
        return what == 0 ? anew : what == 1 ? ownFines : allFines - ownFines;
    }

    int fewestOpenings(int way) {
        if (way == 0) {
            return (int) state.carts.stream().filter(this::isEnd).count();
        }
        if (way != 1) {
            return OUT_OF_RANGE;
        }
        State real = state;
        state = real.copy();
        int openings = 0;
        for (Cart next = lastWaiting(); next != null; next = lastWaiting()) {
            next.load = next.claim;
            doOpen(next.number);
            openings++;
        }
        state = real;
        return openings;
    }

    /** The fewest openings, found by trying every set of carts that were not opened. */
    int fewestByTrying() {
        int all = state.carts.size();
        int fewest = all;
        for (int set = 0; set < 1 << all; set++) {
            if (Integer.bitCount(set) < fewest && clearsAll(set)) {
                fewest = Integer.bitCount(set);
            }
        }
        return fewest;
    }

    private boolean clearsAll(int set) {
        State real = state;
        state = real.copy();
        boolean possible = true;
        for (Cart cart : state.carts) {
            if ((set >> cart.number & 1) == 1) {
                cart.load = cart.claim;
                possible &= doOpen(cart.number) >= 0;
            }
        }
        possible &= state.carts.stream().allMatch(c -> c.cleared || c.opened);
        state = real;
        return possible;
    }

    private boolean isEnd(Cart cart) {
        if (!isWaiting(cart)) {
            return false;
        }
        for (Cart other : state.carts) {
            if (other != cart && isWaiting(other) && leadsTo(other, cart)) {
                return false;
            }
        }
        return true;
    }

    private boolean leadsTo(Cart from, Cart to) {
        for (Cart at : chainOf(from)) {
            if (at == to) {
                return true;
            }
            if (!isWhole(at)) {
                return false;
            }
        }
        return false;
    }

    int bestOpening() {
        int best = NONE;
        for (Cart cart : state.carts) {
            if (!cart.opened
                    && (best == NONE || ifOpened(cart.number, 0) > ifOpened(best, 0))) {
                best = cart.number;
            }
        }
        return best;
    }

    int sameSeal(int number) {
        if (!exists(number)) {
            return UNKNOWN;
        }
        Cart cart = state.carts.get(number);
        for (int claim = 0; claim <= 99; claim++) {
            if (claim != cart.claim && rightSeal(cart, claim) == rightSeal(cart, cart.claim)) {
                return claim;
            }
        }
        return NONE;
    }

    // ---- terms

    private boolean exists(int number) {
        return number >= 0 && number < state.carts.size();
    }

    private boolean isWaiting(Cart cart) {
        return !cart.cleared && !cart.opened;
    }

    private int rightSeal(Cart cart, int claim) {
        int sealAhead = cart.vouchFor == -1 ? 0 : state.carts.get(cart.vouchFor).seal;
        return (state.settings[0] * claim + state.settings[1] * sealAhead + cart.number)
                % state.settings[2];
    }

    private boolean isWhole(Cart cart) {
        return cart.seal == rightSeal(cart, cart.claim);
    }

    private List<Cart> chainOf(Cart cart) {
        List<Cart> chain = new ArrayList<>();
        chain.add(cart);
        for (int next = cart.vouchFor; next != -1; next = state.carts.get(next).vouchFor) {
            chain.add(state.carts.get(next));
        }
        return chain;
    }

    private List<Cart> vouchersOf(Cart cart) {
        List<Cart> vouchers = new ArrayList<>();
        for (Cart other : state.carts) {
            if (other.vouchFor == cart.number) {
                vouchers.add(other);
            }
        }
        return vouchers;
    }
}
