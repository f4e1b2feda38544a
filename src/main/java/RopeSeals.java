/**
 * A toll house where carts vouch for those that came ahead. What it must do
 * stands in ../shared/DOC.md; the parts of Java it keeps to, in
 * ../shared/LANGUAGE.md.
 */
public final class RopeSeals {
    /** There is no such cart or setting. */
    public static final int UNKNOWN = -1;
    /** Another argument is out of its range. */
    public static final int OUT_OF_RANGE = -2;
    /** There is no more room. */
    public static final int FULL = -3;
    /** This is not possible in the present state. */
    public static final int NOT_POSSIBLE = -4;
    /** There is no such thing; this is not an error. */
    public static final int NONE = -5;

    private static final int MOST_CARTS = 24;
    private static final int MOST_SACKS = 99;
    /** Stands where a cart vouches for none. */
    private static final int NO_CART = -1;
    /** The answer of perform for a fault at the start of the text. */
    private static final int FIRST_FAULT = -100;
    private static final int STATES_IN_HISTORY = 15;
    private static final int LENGTH_OF_TEXT = 16;

    private final House house = new House();
    /** The state ahead of the change that is under way; made once, since room is scarce. */
    private final House before = new House();
    private final House snapshot = new House();
    private boolean hasSnapshot = false;
    private final History history = new History();
    private final OrderText text = new OrderText();

    /** Creates a toll house without carts. */
    public RopeSeals() {
    }

    // ---- changes

    /**
     * A cart comes. This is a change.
     *
     * @param claim 0 to 99
     * @param load 0 to 99
     * @param vouchFor a cart, or -1 for none
     * @return its number; UNKNOWN (vouchFor); OUT_OF_RANGE; FULL if 24 came
     */
    public int come(int claim, int load, int vouchFor) {
        before.copyFrom(house);
        return recorded(house.admit(claim, load, vouchFor));
    }

    /**
     * Alters the claim of a cart; its seal stays. This is a change.
     *
     * @param cart a cart
     * @param claim 0 to 99
     * @return the previous claim; UNKNOWN; OUT_OF_RANGE; NOT_POSSIBLE if it was
     *     opened; NONE if it claims so much already
     */
    public int alter(int cart, int claim) {
        before.copyFrom(house);
        return recorded(house.changeClaim(cart, claim));
    }

    /**
     * Gives a cart its right seal. This is a change.
     *
     * @param cart a cart
     * @return the previous seal; UNKNOWN; NONE if its rope is whole
     */
    public int reseal(int cart) {
        before.copyFrom(house);
        return recorded(house.mendSeal(cart));
    }

    /**
     * Opens a cart. This is a change.
     *
     * @param cart a cart
     * @return how many carts are cleared by that that were not; UNKNOWN;
     *     NOT_POSSIBLE if it was opened
     */
    public int open(int cart) {
        before.copyFrom(house);
        return recorded(house.inspect(cart));
    }

    /**
     * Opens carts as long as one is neither cleared nor opened: each time the one
     * of these with the greatest number. This is one change.
     *
     * @return how many are opened; NONE if there is none
     */
    public int openAll() {
        before.copyFrom(house);
        return recorded(house.inspectAll());
    }

    /**
     * Changes a setting. Seals stay. This is a change.
     *
     * @param setting 0 to 4
     * @param value in its range
     * @return the previous value; UNKNOWN; OUT_OF_RANGE; NONE if it has this value
     *     already
     */
    public int set(int setting, int value) {
        before.copyFrom(house);
        return recorded(house.changeSetting(setting, value));
    }

    // ---- texts

    /**
     * Appends a character to the text.
     *
     * @param character any character
     * @return the length of the text then; FULL if it has 60 characters
     */
    public int type(char character) {
        return text.append(character);
    }

    /**
     * Empties the text.
     *
     * @return the length that it had
     */
    public int clearText() {
        return text.empty();
    }

    /**
     * Carries out the orders of the text, which stays, one after the other: all of
     * them, or none if one of them returns an error. This is one change.
     *
     * @return how many orders the text has; -100 minus the fault of the text if it
     *     has one; otherwise the error of the first order that returns one
     */
    public int perform() {
        int orders = text.countOrders();
        if (orders == OrderText.FAULTY) {
            return FIRST_FAULT - text.reached();
        }
        before.copyFrom(house);
        text.rewind();
        for (int order = 0; order < orders; order++) {
            text.nextOrder();
            int answer = carryOutOrder();
            if (isError(answer)) {
                house.copyFrom(before);
                return answer;
            }
        }
        return recorded(orders);
    }

    // ---- history

    /**
     * Restores the latest state of the history, and removes it from there.
     *
     * @return how many states are left; NONE if the history is empty
     */
    public int undo() {
        return history.takeLatest(house);
    }

    /**
     * Takes a snapshot of the state, in place of an earlier one.
     *
     * @return how many carts there are
     */
    public int keep() {
        snapshot.copyFrom(house);
        hasSnapshot = true;
        return house.carts();
    }

    /**
     * Restores the state of the snapshot, which stays. This is a change.
     *
     * @return how many carts there are then; NONE if there is no snapshot
     */
    public int restore() {
        if (!hasSnapshot) {
            return NONE;
        }
        before.copyFrom(house);
        house.copyFrom(snapshot);
        return recorded(house.carts());
    }

    // ---- what there is

    /**
     * Returns something of a cart.
     *
     * @param cart a cart
     * @param what 0 for its claim, 1 for its load if it was opened (NONE otherwise),
     *     2 for the cart for which it vouches (NONE without one), 3 for its seal, 4
     *     for its right seal, 5 for whether its rope is whole, 6 for whether it was
     *     opened, 7 for whether it is cleared, 8 for its fines so far, 9 for its
     *     depth, 10 for how many carts vouch for it, 11 for how many carts have it in
     *     their chains (itself, too), 12 for why it is not cleared
     * @return the number; UNKNOWN; OUT_OF_RANGE
     */
    public int cart(int cart, int what) {
        return house.tellOfCart(cart, what);
    }

    /**
     * Returns a cart of a chain.
     *
     * @param cart a cart
     * @param rank 0 for itself, 1 for the one for which it vouches, and so on
     * @return the cart; UNKNOWN; OUT_OF_RANGE if rank is negative; NONE if its chain
     *     has not so many
     */
    public int chain(int cart, int rank) {
        return house.cartOfChain(cart, rank);
    }

    /**
     * Finds the first cart of a chain, from the cart on down, whose rope is not whole.
     *
     * @param cart a cart
     * @return the cart; UNKNOWN; NONE if all are whole
     */
    public int brokenIn(int cart) {
        return house.firstBroken(cart);
    }

    /**
     * Returns a number of the whole.
     *
     * @param what 0 to 4 for the settings, 5 for the carts, 6 for those that were
     *     opened, 7 for those that are cleared, 8 for those that were found to lie, 9
     *     for ropes that are not whole, 10 for tolls so far, 11 for fines so far, 12
     *     for the greatest depth (0 without carts), 13 for carts for which none
     *     vouches, 14 for sacks that were found so far, 15 for the states in the
     *     history, 16 for the length of the text
     * @return the number; OUT_OF_RANGE
     */
    public int total(int what) {
        if (what == STATES_IN_HISTORY) {
            return history.states();
        }
        if (what == LENGTH_OF_TEXT) {
            return text.length();
        }
        return house.tellOfAll(what);
    }

    // ---- what would be; nothing changes

    /**
     * Tells what opening a cart would bring.
     *
     * @param cart a cart
     * @param what 0 for how many carts would be cleared by that that are not, if it
     *     is honest (whatever it carries), 1 for the fines that would be paid, if it
     *     carries no sack, by the cart itself, 2 for the fines of all others then
     * @return the number; UNKNOWN; OUT_OF_RANGE; NOT_POSSIBLE if it was opened
     */
    public int ifOpened(int cart, int what) {
        return house.foretell(cart, what);
    }

    /**
     * Tells how few carts must be opened so that all that were not opened are
     * cleared, if all of them are honest, with ropes as they are.
     *
     * @param way 0 told by ends, 1 told by opening
     * @return how many; OUT_OF_RANGE
     */
    public int fewestOpenings(int way) {
        if (way == 0) {
            return house.countEnds();
        }
        if (way == 1) {
            return house.countHonestOpenings();
        }
        return OUT_OF_RANGE;
    }

    /**
     * Finds the cart by which the most carts would be cleared that are not, if it is
     * opened and honest; of several the lowest one.
     *
     * @return the cart; NONE if all were opened
     */
    public int bestOpening() {
        return house.mostClearing();
    }

    /**
     * Finds another claim of a cart with which its right seal would be the same.
     *
     * @param cart a cart
     * @return the least such claim; UNKNOWN; NONE if there is none from 0 to 99
     */
    public int sameSeal(int cart) {
        return house.otherClaimForSeal(cart);
    }

    // ---- helpers

    /** Passes on the answer of a change; one that changed something joins the history. */
    private int recorded(int answer) {
        if (answer >= 0) {
            history.add(before);
        }
        return answer;
    }

    private static boolean isError(int answer) {
        return answer < 0 && answer != NONE;
    }

    /** Carries out the order that was read last. */
    private int carryOutOrder() {
        char kind = text.kind();
        if (kind == OrderText.COME) {
            return house.admit(text.claim(), text.load(), text.cartNumber());
        }
        if (kind == OrderText.OPEN) {
            return house.inspect(text.cartNumber());
        }
        if (kind == OrderText.ALTER) {
            return house.changeClaim(text.cartNumber(), text.claim());
        }
        return house.mendSeal(text.cartNumber());
    }

    /**
     * The state: settings and carts, with the rules of the toll house.
     * Sets of carts are held as bits, bit n for cart n.
     */
    private static final class House {
        private static final int A = 0;
        private static final int B = 1;
        private static final int M = 2;
        private static final int FINE = 3;
        private static final int VOUCH = 4;
        private static final int SETTINGS = 5;
        private static final int[] LEAST = {1, 1, 10, 0, 0};
        private static final int[] GREATEST = {99, 99, 999, 99, 99};

        private static final int FINE_PER_SACK = 2;
        private static final int FINE_FOR_ROPE = 3;

        private static final int IS_CLEARED = 0;
        private static final int FOUND_TO_LIE = 1;
        private static final int NOBODY_VOUCHES = 2;
        private static final int NO_VOUCHER_CLEARED = 3;
        private static final int OTHER_REASON = 4;

        private final int[] settings = {31, 17, 97, 10, 5};
        private final int[] claims = new int[MOST_CARTS];
        private final int[] loads = new int[MOST_CARTS];
        private final int[] vouched = new int[MOST_CARTS];
        private final int[] seals = new int[MOST_CARTS];
        private final int[] fines = new int[MOST_CARTS];
        private int count = 0;
        private int opened = 0;
        private int lied = 0;
        private int cleared = 0;
        private int tolls = 0;

        void copyFrom(House other) {
            if (other == null) {
                return;
            }
            System.arraycopy(other.settings, 0, settings, 0, SETTINGS);
            System.arraycopy(other.claims, 0, claims, 0, MOST_CARTS);
            System.arraycopy(other.loads, 0, loads, 0, MOST_CARTS);
            System.arraycopy(other.vouched, 0, vouched, 0, MOST_CARTS);
            System.arraycopy(other.seals, 0, seals, 0, MOST_CARTS);
            System.arraycopy(other.fines, 0, fines, 0, MOST_CARTS);
            count = other.count;
            opened = other.opened;
            lied = other.lied;
            cleared = other.cleared;
            tolls = other.tolls;
        }

        int carts() {
            return count;
        }

        // -- changes

        int admit(int claim, int load, int vouchFor) {
            if (vouchFor != NO_CART && !knows(vouchFor)) {
                return UNKNOWN;
            }
            if (!isSacks(claim) || !isSacks(load)) {
                return OUT_OF_RANGE;
            }
            if (count >= MOST_CARTS) {
                return FULL;
            }
            int cart = count;
            count++;
            claims[cart] = claim;
            loads[cart] = load;
            vouched[cart] = vouchFor;
            fines[cart] = 0;
            seals[cart] = rightSeal(cart);
            tolls += claim;
            return cart;
        }

        int changeClaim(int cart, int claim) {
            if (!knows(cart)) {
                return UNKNOWN;
            }
            if (!isSacks(claim)) {
                return OUT_OF_RANGE;
            }
            if (isIn(opened, cart)) {
                return NOT_POSSIBLE;
            }
            int previous = claims[cart];
            if (previous == claim) {
                return NONE;
            }
            claims[cart] = claim;
            return previous;
        }

        int mendSeal(int cart) {
            if (!knows(cart)) {
                return UNKNOWN;
            }
            if (isWhole(cart)) {
                return NONE;
            }
            int previous = seals[cart];
            seals[cart] = rightSeal(cart);
            return previous;
        }

        int inspect(int cart) {
            if (!knows(cart)) {
                return UNKNOWN;
            }
            if (isIn(opened, cart)) {
                return NOT_POSSIBLE;
            }
            opened |= bit(cart);
            fines[cart] += ownFine(cart, loads[cart]);
            if (isLie(cart, loads[cart])) {
                exposeLiar(cart);
                return 0;
            }
            int gained = clearedIfHonest(cart);
            cleared |= gained;
            return Integer.bitCount(gained);
        }

        private void exposeLiar(int liar) {
            lied |= bit(liar);
            cleared &= ~bit(liar);
            int payers = wholeVouchers(liar);
            for (int cart = 0; cart < count; cart++) {
                if (isIn(payers, cart)) {
                    fines[cart] += settings[VOUCH];
                }
            }
        }

        /**
         * One walk from the greatest number on down is enough: an opening never puts
         * a cart among those that are neither cleared nor opened.
         */
        int inspectAll() {
            int openings = 0;
            for (int cart = count - 1; cart >= 0; cart--) {
                if (isIn(waiting(), cart)) {
                    inspect(cart);
                    openings++;
                }
            }
            return openings > 0 ? openings : NONE;
        }

        int changeSetting(int setting, int value) {
            if (setting < 0 || setting >= SETTINGS) {
                return UNKNOWN;
            }
            if (value < LEAST[setting] || value > GREATEST[setting]) {
                return OUT_OF_RANGE;
            }
            int previous = settings[setting];
            if (previous == value) {
                return NONE;
            }
            settings[setting] = value;
            return previous;
        }

        // -- what there is

        int tellOfCart(int cart, int what) {
            if (!knows(cart)) {
                return UNKNOWN;
            }
            switch (what) {
                case 0:
                    return claims[cart];
                case 1:
                    return isIn(opened, cart) ? loads[cart] : NONE;
                case 2:
                    return vouched[cart] == NO_CART ? NONE : vouched[cart];
                case 3:
                    return seals[cart];
                case 4:
                    return rightSeal(cart);
                case 5:
                    return isWhole(cart) ? 1 : 0;
                case 6:
                    return isIn(opened, cart) ? 1 : 0;
                case 7:
                    return isIn(cleared, cart) ? 1 : 0;
                case 8:
                    return fines[cart];
                case 9:
                    return Integer.bitCount(chainOf(cart));
                case 10:
                    return Integer.bitCount(vouchers(cart));
                case 11:
                    return countChainsWith(cart);
                case 12:
                    return whyNotCleared(cart);
                default:
                    return OUT_OF_RANGE;
            }
        }

        private int countChainsWith(int cart) {
            int chains = 0;
            for (int start = 0; start < count; start++) {
                if (isIn(chainOf(start), cart)) {
                    chains++;
                }
            }
            return chains;
        }

        private int whyNotCleared(int cart) {
            if (isIn(cleared, cart)) {
                return IS_CLEARED;
            }
            if (isIn(lied, cart)) {
                return FOUND_TO_LIE;
            }
            int vouchers = vouchers(cart);
            if (vouchers == 0) {
                return NOBODY_VOUCHES;
            }
            return (vouchers & cleared) == 0 ? NO_VOUCHER_CLEARED : OTHER_REASON;
        }

        int cartOfChain(int cart, int rank) {
            if (!knows(cart)) {
                return UNKNOWN;
            }
            if (rank < 0) {
                return OUT_OF_RANGE;
            }
            if (rank >= MOST_CARTS) {
                return NONE;
            }
            int at = cart;
            for (int step = 0; step < rank && knows(at); step++) {
                at = vouched[at];
            }
            return knows(at) ? at : NONE;
        }

        int firstBroken(int cart) {
            if (!knows(cart)) {
                return UNKNOWN;
            }
            int at = cart;
            for (int step = 0; step < MOST_CARTS && knows(at); step++) {
                if (!isWhole(at)) {
                    return at;
                }
                at = vouched[at];
            }
            return NONE;
        }

        int tellOfAll(int what) {
            if (what >= 0 && what < SETTINGS) {
                return settings[what];
            }
            switch (what) {
                case 5:
                    return count;
                case 6:
                    return Integer.bitCount(opened);
                case 7:
                    return Integer.bitCount(cleared);
                case 8:
                    return Integer.bitCount(lied);
                case 9:
                    return countBroken();
                case 10:
                    return tolls;
                case 11:
                    return finesOfAll();
                case 12:
                    return greatestDepth();
                case 13:
                    return countUnvouched();
                case 14:
                    return sacksFound();
                default:
                    return OUT_OF_RANGE;
            }
        }

        private int countBroken() {
            int broken = 0;
            for (int cart = 0; cart < count; cart++) {
                if (!isWhole(cart)) {
                    broken++;
                }
            }
            return broken;
        }

        private int greatestDepth() {
            int greatest = 0;
            for (int cart = 0; cart < count; cart++) {
                greatest = Math.max(greatest, Integer.bitCount(chainOf(cart)));
            }
            return greatest;
        }

        private int countUnvouched() {
            int unvouched = 0;
            for (int cart = 0; cart < count; cart++) {
                if (vouchers(cart) == 0) {
                    unvouched++;
                }
            }
            return unvouched;
        }

        private int finesOfAll() {
            int sum = 0;
            for (int cart = 0; cart < count; cart++) {
                sum += fines[cart];
            }
            return sum;
        }

        private int sacksFound() {
            int sum = 0;
            for (int cart = 0; cart < count; cart++) {
                if (isIn(opened, cart)) {
                    sum += loads[cart];
                }
            }
            return sum;
        }

        // -- what would be

        int foretell(int cart, int what) {
            if (!knows(cart)) {
                return UNKNOWN;
            }
            if (what < 0 || what > 2) {
                return OUT_OF_RANGE;
            }
            if (isIn(opened, cart)) {
                return NOT_POSSIBLE;
            }
            if (what == 0) {
                return Integer.bitCount(clearedIfHonest(cart));
            }
            if (what == 1) {
                return ownFine(cart, 0);
            }
            return isLie(cart, 0) ? settings[VOUCH] * Integer.bitCount(wholeVouchers(cart)) : 0;
        }

        int countEnds() {
            int waiting = waiting();
            int reachedByOthers = 0;
            for (int cart = 0; cart < count; cart++) {
                if (isIn(waiting, cart)) {
                    reachedByOthers |= reachedFrom(cart) & ~bit(cart);
                }
            }
            return Integer.bitCount(waiting & ~reachedByOthers);
        }

        int countHonestOpenings() {
            int left = waiting();
            int openings = 0;
            for (int cart = count - 1; cart >= 0; cart--) {
                if (isIn(left, cart)) {
                    left &= ~reachedFrom(cart);
                    openings++;
                }
            }
            return openings;
        }

        int mostClearing() {
            int best = NONE;
            int most = -1;
            for (int cart = 0; cart < count; cart++) {
                int gain = Integer.bitCount(clearedIfHonest(cart));
                if (!isIn(opened, cart) && gain > most) {
                    best = cart;
                    most = gain;
                }
            }
            return best;
        }

        int otherClaimForSeal(int cart) {
            if (!knows(cart)) {
                return UNKNOWN;
            }
            int seal = rightSeal(cart);
            for (int claim = 0; claim <= MOST_SACKS; claim++) {
                if (claim != claims[cart] && sealFor(cart, claim) == seal) {
                    return claim;
                }
            }
            return NONE;
        }

        // -- seals and fines of a known cart

        private int rightSeal(int cart) {
            return sealFor(cart, claims[cart]);
        }

        private int sealFor(int cart, int claim) {
            int divisor = settings[M];
            if (divisor <= 0) {
                return 0;
            }
            int ahead = vouched[cart];
            int sealAhead = ahead >= 0 && ahead < count ? seals[ahead] : 0;
            return (settings[A] * claim + settings[B] * sealAhead + cart) % divisor;
        }

        private boolean isWhole(int cart) {
            return seals[cart] == sealFor(cart, claims[cart]);
        }

        private boolean isLie(int cart, int load) {
            return claims[cart] != load;
        }

        /** What the cart itself pays if it is opened and carries that load. */
        private int ownFine(int cart, int load) {
            int fine = isWhole(cart) ? 0 : FINE_FOR_ROPE;
            if (isLie(cart, load)) {
                fine += settings[FINE] + FINE_PER_SACK * Math.abs(claims[cart] - load);
            }
            return fine;
        }

        // -- sets of carts

        private boolean knows(int cart) {
            return cart >= 0 && cart < count;
        }

        private static boolean isSacks(int number) {
            return number >= 0 && number <= MOST_SACKS;
        }

        private static int bit(int cart) {
            return 1 << cart;
        }

        private static boolean isIn(int set, int cart) {
            return (set & bit(cart)) != 0;
        }

        private int all() {
            return bit(count) - 1;
        }

        /** The carts that are neither cleared nor opened. */
        private int waiting() {
            return all() & ~cleared & ~opened;
        }

        private int chainOf(int cart) {
            int chain = 0;
            int at = cart;
            for (int step = 0; step < MOST_CARTS && knows(at); step++) {
                chain |= bit(at);
                at = vouched[at];
            }
            return chain;
        }

        /** The cart, and those of its chain to which only whole ropes lead. */
        private int reachedFrom(int cart) {
            int reached = 0;
            int at = cart;
            for (int step = 0; step < MOST_CARTS && knows(at); step++) {
                reached |= bit(at);
                if (!isWhole(at)) {
                    return reached;
                }
                at = vouched[at];
            }
            return reached;
        }

        /** The carts that an honest opening clears and that are not cleared yet. */
        private int clearedIfHonest(int cart) {
            return reachedFrom(cart) & ~lied & ~cleared;
        }

        private int vouchers(int cart) {
            int set = 0;
            for (int voucher = 0; voucher < count; voucher++) {
                if (vouched[voucher] == cart) {
                    set |= bit(voucher);
                }
            }
            return set;
        }

        private int wholeVouchers(int cart) {
            int set = 0;
            for (int voucher = 0; voucher < count; voucher++) {
                if (vouched[voucher] == cart && isWhole(voucher)) {
                    set |= bit(voucher);
                }
            }
            return set;
        }
    }

    /** The latest states ahead of changes, the oldest one first. */
    private static final class History {
        private static final int MOST_STATES = 4;

        private final House[] rows = new House[MOST_STATES];
        private int size = 0;

        History() {
            for (int row = 0; row < MOST_STATES; row++) {
                rows[row] = new House();
            }
        }

        int states() {
            return size;
        }

        void add(House state) {
            if (size >= MOST_STATES) {
                dropOldest();
            }
            House row = rows[size];
            if (row != null) {
                row.copyFrom(state);
                size++;
            }
        }

        /** The row of the oldest state goes behind the others, to be used again. */
        private void dropOldest() {
            House oldest = rows[0];
            for (int row = 1; row < MOST_STATES; row++) {
                rows[row - 1] = rows[row];
            }
            rows[MOST_STATES - 1] = oldest;
            size = MOST_STATES - 1;
        }

        /** Answers how many states are left, or NONE. */
        int takeLatest(House target) {
            if (size <= 0 || target == null) {
                return NONE;
            }
            size--;
            target.copyFrom(rows[size]);
            return size;
        }
    }

    /**
     * The text of orders, and a reader that walks along it one order at a time.
     * Where the reader stops for want of an allowed character, there is the fault.
     */
    private static final class OrderText {
        static final char COME = 'c';
        static final char OPEN = 'o';
        static final char ALTER = 'x';
        static final char SEAL = 's';
        /** Stands for how many orders there are, if the text has a fault. */
        static final int FAULTY = -1;

        private static final int MOST_CHARACTERS = 60;
        private static final int NO_NUMBER = -1;

        private final char[] characters = new char[MOST_CHARACTERS];
        private int size = 0;
        private int place = 0;
        private char kind = ' ';
        private int cartNumber = NO_CART;
        private int claim = 0;
        private int load = 0;

        int append(char character) {
            if (size >= MOST_CHARACTERS) {
                return FULL;
            }
            characters[size] = character;
            size++;
            return size;
        }

        int empty() {
            int had = size;
            size = 0;
            return had;
        }

        int length() {
            return size;
        }

        /** The place that the reader has reached. */
        int reached() {
            return place;
        }

        char kind() {
            return kind;
        }

        /** The cart of the order just read; NO_CART if a cart comes that vouches for none. */
        int cartNumber() {
            return cartNumber;
        }

        int claim() {
            return claim;
        }

        int load() {
            return load;
        }

        /** Reads the whole text; if it answers FAULTY, the reader stays at the fault. */
        int countOrders() {
            rewind();
            for (int orders = 1; orders <= MOST_CHARACTERS; orders++) {
                if (!readOrder()) {
                    return FAULTY;
                }
                if (place == size) {
                    return orders;
                }
                if (!takes(';')) {
                    return FAULTY;
                }
            }
            return FAULTY;
        }

        void rewind() {
            place = 0;
        }

        /** Reads the next order of a text without a fault. */
        void nextOrder() {
            takes(';');
            readOrder();
        }

        private boolean readOrder() {
            cartNumber = NO_CART;
            if (takesKind(COME)) {
                return readClaim() && takes('/') && readLoad() && (!takes('>') || readCart());
            }
            if (takesKind(OPEN) || takesKind(SEAL)) {
                return readCart();
            }
            return takesKind(ALTER) && readCart() && takes('=') && readClaim();
        }

        private boolean takesKind(char letter) {
            if (!takes(letter)) {
                return false;
            }
            kind = letter;
            return true;
        }

        private boolean readClaim() {
            claim = takeNumber(MOST_SACKS);
            return claim != NO_NUMBER;
        }

        private boolean readLoad() {
            load = takeNumber(MOST_SACKS);
            return load != NO_NUMBER;
        }

        private boolean readCart() {
            cartNumber = takeNumber(MOST_CARTS - 1);
            return cartNumber != NO_NUMBER;
        }

        private boolean takes(char wanted) {
            if (place >= size || characters[place] != wanted) {
                return false;
            }
            place++;
            return true;
        }

        /** Takes as many digits as the number may have; two at most, as no number is above 99. */
        private int takeNumber(int greatest) {
            int number = digitHere();
            if (number == NO_NUMBER) {
                return NO_NUMBER;
            }
            place++;
            int digit = digitHere();
            if (number == 0 || digit == NO_NUMBER || number * 10 + digit > greatest) {
                return number;
            }
            place++;
            return number * 10 + digit;
        }

        private int digitHere() {
            if (place >= size) {
                return NO_NUMBER;
            }
            char character = characters[place];
            return character >= '0' && character <= '9' ? character - '0' : NO_NUMBER;
        }
    }
}
