/** Promises 18 to 21: what would be; nothing changes. */
public final class ForetellingTest {
    private ForetellingTest() {
    }

    public static void main(String[] args) {
        promise18();
        promise19();
        promise20();
        promise21();
        Due.finish();
    }

    private static void due(String call, long got, long want) {
        Due.due(call, got, want);
    }

    /** 1 and 2 vouch for 0, 3 for 1, 4 for 3. */
    private static RopeSeals tree() {
        RopeSeals house = new RopeSeals();
        house.come(10, 10, -1);
        house.come(4, 4, 0);
        house.come(6, 6, 0);
        house.come(8, 9, 1);
        house.come(0, 5, 3);
        return house;
    }

    private static void promise18() {
        RopeSeals house = tree();
        due("18: ifOpened(4, 0), whatever it carries", house.ifOpened(4, 0), 4);
        due("18: ifOpened(2, 0)", house.ifOpened(2, 0), 2);
        due("18: ifOpened(0, 1)", house.ifOpened(0, 1), 30);
        due("18: ifOpened(0, 2)", house.ifOpened(0, 2), 10);
        due("18: ifOpened(3, 1), whatever it carries", house.ifOpened(3, 1), 26);
        due("18: ifOpened(3, 2)", house.ifOpened(3, 2), 5);
        due("18: ifOpened(2, 2), nobody vouches", house.ifOpened(2, 2), 0);
        due("18: ifOpened(4, 1), no lie", house.ifOpened(4, 1), 0);
        house.come(1, 1, 4);
        due("18: ifOpened(4, 2), no lie", house.ifOpened(4, 2), 0);
        house.set(3, 0);
        house.set(4, 50);
        due("18: ifOpened(0, 1), FINE as it is set", house.ifOpened(0, 1), 20);
        due("18: ifOpened(0, 2), VOUCH as it is set", house.ifOpened(0, 2), 100);
        house.alter(1, 9);
        due("18: ifOpened(0, 2), one rope is not whole", house.ifOpened(0, 2), 50);
        due("18: ifOpened(1, 1), its rope is not whole", house.ifOpened(1, 1), 18 + 3);
        due("18: ifOpened(1, 0), its rope is not whole", house.ifOpened(1, 0), 1);
        due("18: ifOpened(4, 0), down to there", house.ifOpened(4, 0), 3);
        house.alter(1, 0);
        due("18: ifOpened(1, 1), no lie, but its rope is not whole", house.ifOpened(1, 1), 3);
        due("18: ifOpened(1, 2), no lie", house.ifOpened(1, 2), 0);
        due("18: none was opened", house.total(6), 0);
        due("18: none was cleared", house.total(7), 0);
        due("18: none paid", house.total(11), 0);

        house = tree();
        house.open(3);
        due("18: ifOpened(4, 0), through a liar", house.ifOpened(4, 0), 3);
        house.open(2);
        due("18: ifOpened(4, 0), to one that is cleared", house.ifOpened(4, 0), 2);
        due("18: ifOpened(0, 0), cleared already", house.ifOpened(0, 0), 0);
        due("18: ifOpened(0, 1), cleared already", house.ifOpened(0, 1), 30);
        due("18: ifOpened(0, 2), fines of others, opened or not", house.ifOpened(0, 2), 10);
    }

    private static void dueFewest(String when, RopeSeals house, int want) {
        due("19: fewestOpenings(0), " + when, house.fewestOpenings(0), want);
        due("19: fewestOpenings(1), " + when, house.fewestOpenings(1), want);
    }

    private static void promise19() {
        RopeSeals house = tree();
        dueFewest("two ends", house, 2);
        house.alter(1, 9);
        dueFewest("2 reaches 0, too", house, 2);
        house.alter(3, 1);
        dueFewest("1 is reached by nobody", house, 3);
        house.alter(2, 1);
        dueFewest("0 is reached by nobody", house, 4);
        house.open(4);
        dueFewest("4 lies", house, 4);
        house.open(1);
        dueFewest("1 lies, too", house, 3);
        house.openAll();
        dueFewest("none is left", house, 0);

        house = tree();
        house.open(2);
        dueFewest("0 is cleared", house, 1);
        house.open(0);
        dueFewest("0 is opened", house, 1);
        house.open(1);
        dueFewest("1 is opened", house, 1);
        house.open(3);
        dueFewest("3 lies", house, 1);
        dueFewest("without carts", new RopeSeals(), 0);
        due("19: fewestOpenings(2)", house.fewestOpenings(2), -2);
        due("19: fewestOpenings(-1)", house.fewestOpenings(-1), -2);
        due("19: fewestOpenings(least)", house.fewestOpenings(Integer.MIN_VALUE), -2);
        due("19: fewestOpenings(greatest)", house.fewestOpenings(Integer.MAX_VALUE), -2);
        due("19: no openings", house.total(6), 4);

        house = new RopeSeals();
        for (int cart = 0; cart < 24; cart++) {
            house.come(1, 1, -1);
        }
        dueFewest("24 chains", house, 24);
        house = new RopeSeals();
        for (int cart = 0; cart < 24; cart++) {
            house.come(1, 1, cart - 1);
        }
        dueFewest("one chain", house, 1);
    }

    private static void promise20() {
        RopeSeals house = tree();
        due("20: bestOpening()", house.bestOpening(), 4);
        house.alter(3, 1);
        due("20: bestOpening(), of several the lowest", house.bestOpening(), 1);
        house.alter(1, 1);
        due("20: bestOpening(), of several the lowest", house.bestOpening(), 2);
        house.open(2);
        due("20: bestOpening(), 0 is cleared", house.bestOpening(), 4);
        house = tree();
        house.alter(4, 5);
        house.reseal(4);
        house.open(4);
        due("20: bestOpening(), 3 would clear none", house.bestOpening(), 2);
        house.open(2);
        due("20: bestOpening(), none would clear any", house.bestOpening(), 0);
        house.open(0);
        due("20: bestOpening(), 0 was opened", house.bestOpening(), 1);
        house.open(1);
        house.open(3);
        due("20: bestOpening(), all were opened", house.bestOpening(), -5);
        due("20: bestOpening(), without carts", new RopeSeals().bestOpening(), -5);
    }

    private static void promise21() {
        RopeSeals house = new RopeSeals();
        house.come(0, 0, -1);
        due("21: sameSeal(0), claim 0", house.sameSeal(0), 97);
        house.alter(0, 97);
        due("21: sameSeal(0), claim 97", house.sameSeal(0), 0);
        house.alter(0, 99);
        due("21: sameSeal(0), claim 99", house.sameSeal(0), 2);
        house.alter(0, 2);
        due("21: sameSeal(0), claim 2", house.sameSeal(0), 99);
        house.alter(0, 3);
        due("21: sameSeal(0), claim 3", house.sameSeal(0), -5);
        house.set(0, 97);
        due("21: sameSeal(0), A is M", house.sameSeal(0), 0);
        house.alter(0, 0);
        due("21: sameSeal(0), A is M, claim 0", house.sameSeal(0), 1);
        house.set(0, 5);
        house.set(2, 10);
        house.come(1, 1, 0);
        due("21: sameSeal(1)", house.sameSeal(1), 3);
        house.alter(1, 2);
        due("21: sameSeal(1), by the right seal, not by the one it has", house.sameSeal(1), 0);
        house.open(1);
        due("21: sameSeal(1), opened", house.sameSeal(1), 0);
        due("21: sameSeal(2)", house.sameSeal(2), -1);
        due("21: sameSeal(-1)", house.sameSeal(-1), -1);
        due("21: sameSeal(greatest)", house.sameSeal(Integer.MAX_VALUE), -1);
        due("21: nothing changed", house.cart(1, 0), 2);
    }
}
