/** Promises 1, 4 to 12, 17 and 43: people, laws, and what is so of them now. */
public final class PeopleTest {
    private static final Due due = new Due("PeopleTest");

    public static void main(String[] args) {
        promise1();
        promises4And5();
        promise6();
        promise7();
        promise8();
        promise9();
        promise10();
        promise11();
        promise12();
        promise17();
        promise43();
        due.end();
    }

    private static void promise1() {
        WoolMarket m = new WoolMarket();
        due.is("1 nobody", m.many(0), 0);
        due.is("1 of(0, 0)", m.of(0, 0), -1);
        due.is("1 again()", m.again(), -3);
        due.is("1 state(0)", m.state(0), 0);
        due.is("1 state(1)", m.state(1), 0);
        due.is("1 seed(1)", m.seed(1), 1);
        due.is("1 trace(0)", m.trace(0), -3);
        due.is("1 row(0, 0)", m.row(0, 0), -9);
        for (int place = 0; place < 4; place++) {
            due.is("1 item", m.item(place, 0, 0), -11);
            due.is("1 taken", m.taken(place, 0), -11);
        }
        for (int what = 0; what <= 6; what++) {
            due.is("1 many", m.many(what), 0);
        }
    }

    private static void promises4And5() {
        WoolMarket m = new WoolMarket();
        int[] first = {2, 1, 0, 20};
        int[] most = {9, 9, 9, 99};
        for (int law = 0; law < 4; law++) {
            due.is("5 at first", m.lawOf(law), first[law]);
            due.is("4 above", m.set(law, most[law] + 1), -1);
            due.is("4 below", m.set(law, -1), -1);
            due.is("4 unchanged", m.lawOf(law), first[law]);
            due.is("4 most", m.set(law, most[law]), first[law]);
            due.is("5 most", m.lawOf(law), most[law]);
            due.is("4 least", m.set(law, 0), most[law]);
            due.is("5 least", m.lawOf(law), 0);
        }
        due.is("4 no such law", m.set(4, 1), -1);
        due.is("4 no such law", m.set(-1, 1), -1);
        due.is("5 no such law", m.lawOf(4), -1);
        due.is("5 no such law", m.lawOf(-1), -1);
    }

    private static void promise6() {
        WoolMarket m = new WoolMarket();
        int[][] wrong = {{-1, 0, 0, 0}, {6, 0, 0, 0}, {0, -1, 0, 0}, {0, 100, 0, 0},
            {0, 0, -1, 0}, {0, 0, 100, 0}, {0, 0, 0, -1}, {0, 0, 0, 100}};
        for (int[] w : wrong) {
            due.is("6 wrong", m.person(w[0], w[1], w[2], w[3]), -1);
        }
        due.is("6 nobody yet", m.many(0), 0);
        for (int i = 0; i < 8; i++) {
            due.is("6 number", m.person(i % 6, 99, 99, 99), i);
            due.is("6 coins", m.of(i, 4), 50);
        }
        due.is("6 full", m.person(0, 0, 0, 0), -2);
        due.is("6 wrong before full", m.person(6, 0, 0, 0), -1);
        due.is("6 still eight", m.many(0), 8);
    }

    private static void promise7() {
        WoolMarket m = new WoolMarket();
        m.person(3, 11, 22, 33);
        m.person(0, 0, 0, 0);
        int[] first = {3, 11, 22, 33, 50, 0};
        int[] second = {0, 0, 0, 0, 50, 1};
        for (int what = 0; what < 6; what++) {
            due.is("7 first", m.of(0, what), first[what]);
            due.is("7 second", m.of(1, what), second[what]);
        }
        due.is("7 no such what", m.of(0, 6), -1);
        due.is("7 no such what", m.of(0, -1), -1);
        due.is("7 no such one", m.of(2, 0), -1);
        due.is("7 no such one", m.of(-1, 0), -1);
    }

    private static void promise8() {
        WoolMarket m = new WoolMarket();
        for (int kind = 0; kind < 6; kind++) {
            m.person(kind, 0, 35, 51);
        }
        int[] wears = {51, 25, 12, 27, 15, 0};
        int[] frays = {1, -1, 2, -3, 2, 10};
        int[] fraysAtMost = {9, 7, 18, -2, 18, 18};
        for (int kind = 0; kind < 6; kind++) {
            due.is("8 wears " + kind, m.does(kind, 0), 1000 + wears[kind]);
            due.is("8 frays " + kind, m.does(kind, 1), 1000 + frays[kind]);
        }
        m.set(0, 9);
        m.set(1, 9);
        for (int kind = 0; kind < 6; kind++) {
            due.is("8 frays most " + kind, m.does(kind, 1), 1000 + fraysAtMost[kind]);
        }
        due.is("8 knitter wears more weft", m.does(3, 0), 1034);
        m.change(3, 3, 99);
        due.is("8 knitter wears most", m.does(3, 0), 1058);
        m.days(1);
        due.is("8 clerk in an odd day", m.does(4, 1), 1000);
        m.days(1);
        due.is("8 clerk in an even day", m.does(4, 1), 1018);
        due.is("8 no such what", m.does(0, 2), -1);
        due.is("8 no such what", m.does(0, -1), -1);
        due.is("8 no such one", m.does(6, 0), -1);
    }

    private static void promise9() {
        WoolMarket m = new WoolMarket();
        m.person(0, 50, 90, 33);
        m.person(0, 10, 0, 0);
        int[] sees = {36, 22, 16, 24, 23, 10};
        int[] offers = {36, 20, 21, 44, 14, 0};
        for (int kind = 0; kind < 6; kind++) {
            m.mind(0, kind, 90);
            due.is("9 sees " + kind, m.looks(0, 1, 0), 1000 + sees[kind]);
            due.is("9 offers " + kind, m.looks(0, 1, 1), 1000 + offers[kind]);
        }
        m.change(1, 1, 0);
        m.change(0, 3, 0);
        m.set(0, 9);
        int[] least = {0, -9, 5, -18, 2, -10};
        for (int kind = 0; kind < 6; kind++) {
            m.mind(0, kind, 0);
            due.is("9 offers least " + kind, m.looks(0, 1, 1), 1000 + least[kind]);
        }
        due.is("9 the same", m.looks(0, 0, 0), -1);
        due.is("9 no such one", m.looks(0, 2, 0), -1);
        due.is("9 no such one", m.looks(2, 0, 0), -1);
        due.is("9 no such one", m.looks(-1, 0, 1), -1);
        due.is("9 no such what", m.looks(0, 1, 2), -1);
        due.is("9 no such what", m.looks(0, 1, -1), -1);
    }

    private static void promise10() {
        WoolMarket m = new WoolMarket();
        m.person(2, 5, 6, 7);
        due.is("10 mind", m.mind(0, 4, 99), 2);
        due.is("10 kind", m.of(0, 0), 4);
        due.is("10 wish", m.of(0, 2), 99);
        due.is("10 truth stays", m.of(0, 1), 5);
        due.is("10 web stays", m.of(0, 3), 7);
        due.is("10 the same kind", m.mind(0, 4, 0), 4);
        due.is("10 kind", m.mind(0, 6, 0), -1);
        due.is("10 kind", m.mind(0, -1, 0), -1);
        due.is("10 wish", m.mind(0, 0, 100), -1);
        due.is("10 wish", m.mind(0, 0, -1), -1);
        due.is("10 one", m.mind(1, 0, 0), -1);
        due.is("10 unchanged", m.of(0, 0), 4);
    }

    private static void promise11() {
        WoolMarket m = new WoolMarket();
        m.person(0, 5, 6, 7);
        due.is("11 truth", m.change(0, 1, 99), 5);
        due.is("11 truth was", m.change(0, 1, 0), 99);
        due.is("11 web", m.change(0, 3, 99), 7);
        due.is("11 coins", m.change(0, 4, 9999), 50);
        due.is("11 coins was", m.change(0, 4, 0), 9999);
        int[][] wrong = {{0, 0, 0}, {0, 2, 5}, {0, 5, 0}, {0, -1, 0}, {0, 6, 0}, {1, 1, 0}, {-1, 1, 0},
            {0, 1, 100}, {0, 1, -1}, {0, 3, 100}, {0, 3, -1}, {0, 4, 10000}, {0, 4, -1}};
        for (int[] w : wrong) {
            due.is("11 wrong", m.change(w[0], w[1], w[2]), -1);
        }
        due.is("11 kind stays", m.of(0, 0), 0);
        due.is("11 wish stays", m.of(0, 2), 6);
        due.is("11 truth stays", m.of(0, 1), 0);
        due.is("11 web stays", m.of(0, 3), 99);
        due.is("11 coins stay", m.of(0, 4), 0);
    }

    private static void promise12() {
        WoolMarket m = new WoolMarket();
        m.person(1, 2, 3, 4);
        m.person(5, 6, 7, 8);
        m.change(1, 4, 900);
        due.is("12 trade", m.trade(0, 1), 1);
        int[] first = {5, 6, 7, 8, 900};
        int[] second = {1, 2, 3, 4, 50};
        for (int what = 0; what < 5; what++) {
            due.is("12 first", m.of(0, what), first[what]);
            due.is("12 second", m.of(1, what), second[what]);
        }
        due.is("12 the same", m.trade(1, 1), -1);
        due.is("12 no such one", m.trade(0, 2), -1);
        due.is("12 no such one", m.trade(-1, 0), -1);
    }

    private static void promise17() {
        WoolMarket m = Due.told("buyer truth 30; buyer truth 20 web 5; uncle truth 30 coins 7; toll 1;");
        int[] before = {0, 0, 107, 5, 5, 0};
        for (int what = 0; what < 6; what++) {
            due.is("17 before " + what, m.state(what), before[what]);
        }
        m.days(1);
        // 0 pays 20 (19 come), 1 sees 30 less for its web: 28 (27 come), 2 offers 30 less 10: 20 (19 come).
        due.is("17 day", m.state(0), 1);
        due.is("17 chest", m.state(1), 3);
        due.is("17 coins", m.state(2), 104);
        due.is("17 web", m.state(4), 4);
        m.mind(2, 0, 0);
        due.is("17 fair pairs", m.state(5), 1);
        due.is("17 no such what", m.state(6), -1);
        due.is("17 no such what", m.state(-1), -1);
    }

    private static void promise43() {
        WoolMarket m = Due.told("buyer web 4; uncle web 4; clerk wish 50 coins 0; magistrate web 3;");
        m.feed(0, 3);
        m.prove(0, 7);
        m.shelf(1, 0, 0);
        m.act(1, 1, 0);
        int[] want = {4, 1, 3, 2, 7, 3, 2};
        for (int what = 0; what < 7; what++) {
            due.is("43 many " + what, m.many(what), want[what]);
        }
        m.change(2, 4, 1);
        due.is("43 one coin", m.many(2), 4);
        m.mind(3, 0, 0);
        m.change(3, 3, 1);
        due.is("43 the thinnest", m.many(3), 3);
        due.is("43 no such what", m.many(7), -1);
        due.is("43 no such what", m.many(-1), -1);
    }
}
