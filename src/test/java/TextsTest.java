/** Promises 8 to 10: the text, and the orders in it. */
public final class TextsTest {
    private TextsTest() {
    }

    public static void main(String[] args) {
        promise8();
        promise9();
        promise10Faults();
        promise10Orders();
        promise10Errors();
        promise10IsOneChange();
        promise10LongText();
        Due.finish();
    }

    private static void due(String call, long got, long want) {
        Due.due(call, got, want);
    }

    private static void promise8() {
        RopeSeals house = new RopeSeals();
        char[] any = {'c', (char) 0, '\n', ' ', (char) 255, (char) 256, (char) 65535};
        for (int i = 0; i < 60; i++) {
            due("8: type, number " + i, house.type(any[i % any.length]), i + 1);
        }
        due("8: type, the 61st", house.type('c'), -3);
        due("8: length", house.total(16), 60);
        due("8: no change", house.total(15), 0);
        due("8: undo()", house.undo(), -5);
    }

    private static void promise9() {
        RopeSeals house = new RopeSeals();
        due("9: clearText(), empty", house.clearText(), 0);
        Due.typeAll(house, "c5/5");
        due("9: clearText()", house.clearText(), 4);
        due("9: length", house.total(16), 0);
        due("9: clearText(), again", house.clearText(), 0);
        due("9: perform()", house.perform(), -100);
        due("9: type('o')", house.type('o'), 1);
        due("9: perform(), nothing is left of the old text", house.perform(), -101);
        due("9: no change", house.total(15), 0);
    }

    private static void fault(String text, int place) {
        RopeSeals house = new RopeSeals();
        for (int cart = 0; cart < 24; cart++) {
            house.come(0, 0, -1);
        }
        due("10: '" + text + "'", Due.perform(house, text), -100 - place);
        due("10: '" + text + "' stays", house.total(16), text.length());
    }

    private static void promise10Faults() {
        fault("", 0);
        String[] wrongStarts = {"a", "C5/5", " o1", ";s1", "1", "/", ">", "=", "5/5", "O1"};
        for (String text : wrongStarts) {
            fault(text, 0);
        }
        String[] lettersAlone = {"c", "o", "x", "s"};
        for (String text : lettersAlone) {
            fault(text, 1);
            fault(text + ";", 1);
            fault(text + "-1", 1);
            fault(text + text, 1);
            fault(text + " 1", 1);
        }
        fault("c5", 2);
        fault("c5 /5", 2);
        fault("c/5", 1);
        fault("c5;", 2);
        fault("c5=5", 2);
        fault("c00/1", 2);
        fault("c05/1", 2);
        fault("c100/1", 3);
        fault("c990/1", 3);
        fault("c99/", 4);
        fault("c99/;", 4);
        fault("c99/100", 6);
        fault("c5/01", 4);
        fault("c5/5/5", 4);
        fault("c5/5=1", 4);
        fault("c5/5>", 5);
        fault("c5/5>-1", 5);
        fault("c5/5>24", 6);
        fault("c5/5>30", 6);
        fault("c5/5>100", 7);
        fault("c5/5>03", 6);
        fault("c5/5>1>1", 6);
        fault("c5/5>;", 5);
        fault("c5/5;", 5);
        fault("o24", 2);
        fault("o00", 2);
        fault("o99", 2);
        fault("o1=1", 2);
        fault("o1>1", 2);
        fault("o1 ", 2);
        fault("o123", 3);
        fault("s24", 2);
        fault("s1,s1", 2);
        fault("s1;", 3);
        fault("s1;;s1", 3);
        fault("s1;a", 3);
        fault("x1", 2);
        fault("x1/5", 2);
        fault("x1=", 3);
        fault("x=5", 1);
        fault("x24=1", 2);
        fault("x01=1", 2);
        fault("x1=100", 5);
        fault("x1=00", 4);
        fault("x1==1", 3);
        fault("x1=-1", 3);
        fault("x1=5>1", 4);
        fault("" + (char) (256 + 'o') + "1", 0);
        fault("o" + (char) (256 + '1'), 1);
        fault("o1" + (char) 0, 2);
        fault("c5/5" + (char) 1641, 4);
    }

    private static void promise10Orders() {
        RopeSeals house = new RopeSeals();
        due("10: a cart comes", Due.perform(house, "c5/7"), 1);
        due("10: claim", house.cart(0, 0), 5);
        due("10: vouches for none", house.cart(0, 2), -5);
        due("10: three come", Due.perform(house, "c0/0>0;c99/99>1;c10/90"), 3);
        due("10: vouches for 1", house.cart(2, 2), 1);
        due("10: claim", house.cart(2, 0), 99);
        due("10: 3 vouches for none, although those ahead do", house.cart(3, 2), -5);
        due("10: altered", Due.perform(house, "x2=98"), 1);
        due("10: claim", house.cart(2, 0), 98);
        due("10: rope", house.cart(2, 5), 0);
        due("10: resealed", Due.perform(house, "s2"), 1);
        due("10: rope", house.cart(2, 5), 1);
        due("10: opened", Due.perform(house, "x2=99;o2;o0;o3"), 4);
        due("10: honest", house.cart(2, 7), 1);
        due("10: load", house.cart(0, 1), 7);
        due("10: load", house.cart(3, 1), 90);
        due("10: fines", house.total(11), 3 + 10 + 4 + 5 + 10 + 160);
        due("10: cart numbers of two digits", Due.perform(house,
                "c1/1;c1/1;c1/1;c1/1;c1/1;c1/1;c1/1>9;c2/2>10;x10=9;o11"), 10);
        due("10: 11 vouches for 10", house.cart(11, 2), 10);
        due("10: 10 was altered", house.cart(10, 0), 9);
        due("10: 11 was opened", house.cart(11, 6), 1);
    }

    private static void promise10Errors() {
        RopeSeals house = new RopeSeals();
        due("10: no such cart", Due.perform(house, "c5/5;o1"), -1);
        due("10: none came", house.total(5), 0);
        due("10: no change", house.total(15), 0);
        due("10: the text stays", house.total(16), 7);
        due("10: no such cart to vouch for", Due.perform(house, "c5/5>0"), -1);
        due("10: no such cart to alter", Due.perform(house, "x0=5"), -1);
        due("10: no such cart to reseal", Due.perform(house, "s23"), -1);
        due("10: opened twice", Due.perform(house, "c5/5;o0;o0"), -4);
        due("10: altered when opened", Due.perform(house, "c5/5;o0;x0=5"), -4);
        due("10: the first error", Due.perform(house, "c5/5;o0;o0;o7"), -4);
        due("10: the first error", Due.perform(house, "c5/5;o0;o7;o0"), -1);
        due("10: a fault is ahead of errors", Due.perform(house, "o7;o"), -104);
        due("10: none came", house.total(5), 0);
        due("10: tolls", house.total(10), 0);
        for (int cart = 0; cart < 23; cart++) {
            house.come(1, 1, -1);
        }
        due("10: two come, but one has room", Due.perform(house, "c1/1;c2/2"), -3);
        due("10: none came", house.total(5), 23);
        due("10: 24 can be no cart", Due.perform(house, "c1/1;c1/1>24"), -111);
        due("10: 23 is no cart yet", Due.perform(house, "c1/1>23"), -1);
        due("10: 23 is one", Due.perform(house, "c1/1>22;o23"), 2);
    }

    private static void promise10IsOneChange() {
        RopeSeals house = new RopeSeals();
        due("10: NONE is no error", Due.perform(house, "c5/5;s0;x0=5;o0"), 4);
        due("10: the next one followed", house.cart(0, 6), 1);
        due("10: one change", house.total(15), 1);
        due("10: again", Due.perform(house, "s0"), 1);
        due("10: a change, as it returns no NONE", house.total(15), 2);
        due("10: undo()", house.undo(), 1);
        due("10: undo()", house.undo(), 0);
        due("10: none there", house.total(5), 0);
        due("10: the text stays", house.total(16), 2);
        Due.typeAll(house, "c3/3");
        due("10: perform()", house.perform(), 1);
        due("10: perform(), the same text", house.perform(), 1);
        due("10: two came", house.total(5), 2);
    }

    private static void promise10LongText() {
        RopeSeals house = new RopeSeals();
        house.come(5, 5, -1);
        StringBuilder text = new StringBuilder("s0");
        for (int order = 1; order < 20; order++) {
            text.append(";s0");
        }
        due("10: 20 orders", Due.perform(house, text.toString()), 20);
        due("10: type(';')", house.type(';'), 60);
        due("10: a full text that ends too early", house.perform(), -160);
        due("10: type('s')", house.type('s'), -3);
        due("10: a fault near the end", Due.perform(house, text + "0"), -159);
        Due.typeAll(house, text.substring(6) + ";c50/5");
        due("10: length", house.total(16), 59);
        due("10: type('7')", house.type('7'), 60);
        due("10: a full text without a fault", house.perform(), 19);
        house.open(1);
        due("10: load", house.cart(1, 1), 57);
    }
}
