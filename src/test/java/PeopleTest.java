/** Promises 4 to 12, 17 and 43: people, laws, and what is so of them now. Edges: PeopleEdges, DaysEdges, KeptEdges. */
public final class PeopleTest {
    private static final Due due = new Due("PeopleTest");

    public static void main(String[] args) {
        promises4And5();
        promises6And7();
        promise8();
        promise9();
        promise10();
        promise11();
        promise12();
        promise17();
        promise43();
        due.end();
    }

    private static void promises4And5() {
        WoolMarket m = new WoolMarket();
        for (int law = 0; law < 4; law++) {
            int first = m.lawOf(law);
            due.is("4 what it was", m.set(law, 3 + law), first);
        }
        for (int law = 0; law < 4; law++) {
            due.is("5 what it is", m.lawOf(law), 3 + law);
        }
    }

    private static void promises6And7() {
        WoolMarket m = new WoolMarket();
        due.is("6 the first", m.person(3, 11, 22, 33), 0);
        due.is("6 the second", m.person(2, 44, 55, 0), 1);
        int[] first = {3, 11, 22, 33, 50, 0};
        int[] second = {2, 44, 55, 0, 50, 1};
        for (int what = 0; what < 6; what++) {
            due.is("7 first", m.of(0, what), first[what]);
            due.is("7 second", m.of(1, what), second[what]);
        }
    }

    private static void promise8() {
        WoolMarket m = new WoolMarket();
        for (int kind = 0; kind < 6; kind++) {
            m.person(kind, 0, 35, 51);
        }
        int[] wears = {51, 25, 12, 27, 15, 0};
        int[] frays = {1, -1, 2, -3, 2, 10};
        for (int kind = 0; kind < 6; kind++) {
            due.is("8 wears " + kind, m.does(kind, 0), 1000 + wears[kind]);
            due.is("8 frays " + kind, m.does(kind, 1), 1000 + frays[kind]);
        }
        m.set(0, 9);
        due.is("8 knitter wears more weft", m.does(3, 0), 1034);
    }

    private static void promise9() {
        WoolMarket m = new WoolMarket();
        m.person(0, 50, 90, 33);
        m.person(0, 10, 0, 0);
        int[] sees = {36, 22, 16, 24, 23, 10};
        int[] offers = {36, 20, 21, 44, 14, 0};
        for (int kind = 0; kind < 6; kind++) {
            m.mind(0, kind, 90);
            due.is("9 sees " + kind, m.looks(0, 1, 0), 1000 + sees[kind]);
            due.is("9 offers " + kind, m.looks(0, 1, 1), 1000 + offers[kind]);
        }
        due.is("9 the other one sees", m.looks(1, 0, 0), 1050);
    }

    private static void promise10() {
        WoolMarket m = new WoolMarket();
        m.person(2, 5, 6, 7);
        due.is("10 mind", m.mind(0, 4, 98), 2);
        int[] want = {4, 5, 98, 7, 50};
        for (int what = 0; what < 5; what++) {
            due.is("10 then", m.of(0, what), want[what]);
        }
        due.is("10 the same kind", m.mind(0, 4, 8), 4);
    }

    private static void promise11() {
        WoolMarket m = new WoolMarket();
        m.person(4, 5, 6, 7);
        due.is("11 truth", m.change(0, 1, 15), 5);
        due.is("11 web", m.change(0, 3, 17), 7);
        due.is("11 coins", m.change(0, 4, 1234), 50);
        int[] want = {4, 15, 6, 17, 1234};
        for (int what = 0; what < 5; what++) {
            due.is("11 then", m.of(0, what), want[what]);
        }
    }

    private static void promise12() {
        WoolMarket m = new WoolMarket();
        m.person(1, 2, 3, 4);
        m.person(5, 6, 7, 8);
        m.change(1, 4, 900);
        due.is("12 trade", m.trade(0, 1), 1);
        int[] first = {5, 6, 7, 8, 900};
        int[] second = {1, 2, 3, 4, 50};
        for (int what = 0; what < 5; what++) {
            due.is("12 first", m.of(0, what), first[what]);
            due.is("12 second", m.of(1, what), second[what]);
        }
    }

    private static void promise17() {
        WoolMarket m = Due.told("buyer truth 30; buyer truth 20 web 5; uncle truth 30 coins 7; toll 1;");
        int[] before = {0, 0, 107, 5, 5, 0};
        for (int what = 0; what < 6; what++) {
            due.is("17 before " + what, m.state(what), before[what]);
        }
        m.days(1);
        // 0 pays 20 (19 come), 1 sees 30 less for its web: 28 (27 come), 2 offers 30 less 10: 20 (19 come).
        due.is("17 day", m.state(0), 1);
        due.is("17 chest", m.state(1), 3);
        due.is("17 coins", m.state(2), 104);
        due.is("17 web", m.state(4), 4);
        m.mind(2, 0, 0);
        due.is("17 fair pairs", m.state(5), 1);
    }

    private static void promise43() {
        WoolMarket m = Due.told("buyer web 4; wife web 9; clerk wish 50; magistrate; uncle web 3; uncle; buyer coins 0;");
        int[] want = {7, 4, 6, 3, 0, 0, 0};
        for (int what = 0; what < 7; what++) {
            due.is("43 many " + what, m.many(what), want[what]);
        }
        m.days(1);
        due.is("43 the first who had none was paid and pays 0", m.many(2), 6);
    }
}
