/** Promises 2 and 3: THE TAPE and TEXT. Edges: TapeEdges. */
public final class TextTest {
    private static final Due due = new Due("TextTest");

    public static void main(String[] args) {
        promise2();
        promise3();
        faults();
        what3Leaves();
        due.end();
    }

    private static void promise2() {
        WoolMarket m = new WoolMarket();
        due.is("2 one", m.feed(0x20, 1), 1);
        // 'wife;' with the lowest byte first, and three bytes above that are not taken.
        due.is("2 five", m.feed(0x7777773b65666977L, 5), 6);
        due.is("2 'uncle ; '", m.feed(0x203b20656c636e75L, 8), 14);
        due.is("2 in order", m.market(), 2);
        due.is("2 wife", m.of(0, 0), 1);
        due.is("2 uncle", m.of(1, 0), 5);
    }

    private static void promise3() {
        WoolMarket m = new WoolMarket();
        due.is("3 all", Due.read(m, "  knitter truth 99 wish 098 web 97 coins 999 ;slip 99;weft9 ; fray 0;toll 009;clerk;"), 2);
        int[] want = {3, 99, 98, 97, 999, 0};
        for (int what = 0; what < 6; what++) {
            due.is("3 knitter " + what, m.of(0, what), want[what]);
        }
        int[] laws = {9, 0, 9, 99};
        for (int law = 0; law < 4; law++) {
            due.is("3 law " + law, m.lawOf(law), laws[law]);
        }
        int[] bare = {4, 0, 0, 0, 50, 1};
        for (int what = 0; what < 6; what++) {
            due.is("3 clerk " + what, m.of(1, what), bare[what]);
        }
        due.is("3 kinds", Due.read(m, "buyer;wife;magistrate;knitter;clerk;uncle;"), 6);
        for (int kind = 0; kind < 6; kind++) {
            due.is("3 kind", m.of(kind, 0), kind);
        }
        due.is("3 the later law", Due.read(m, "fray 3;fray 4;"), 0);
        due.is("3 the later law", m.lawOf(1), 4);
        due.is("3 some traits", Due.read(m, "uncle wish 5 coins 0;"), 1);
        due.is("3 wish", m.of(0, 2), 5);
        due.is("3 coins", m.of(0, 4), 0);
    }

    private static void faults() {
        fault("buyer truth 9 wish", 18);
        fault("buyer wish 5 truth 5;", 13);
        fault("buyer truth web;", 12);
        fault("buyer truth 5 5;", 14);
        fault("buyer truth 5 weft 6;", 14);
        fault("buyer; baker;", 7);
        fault("buyer, wife;", 5);
        fault("slip 5 wife;", 7);
    }

    private static void fault(String text, int place) {
        due.is("3 fault of " + text, Due.read(new WoolMarket(), text), -100 - place);
    }

    private static void what3Leaves() {
        WoolMarket m = Due.told("buyer truth 9; buyer truth 9; toll 2;");
        m.keep();
        m.sheet(0, 0, 4);
        m.shelf(0, 0, 1);
        m.shelf(1, 0, 0);
        m.act(1, 0, 0);
        due.is("3 read", Due.read(m, "wife; fray 0;"), 1);
        due.is("3 sheets stay", m.item(0, 0, 3), 0);
        due.is("3 shelves stay", m.taken(1, 1), 0);
        due.is("3 the trace stays", m.trace(0), 10);
        due.is("3 those who are gone have no coins", m.many(2), 1);
        due.is("3 nor anything to wear", m.many(3), 0);
        due.is("3 nor a place on the steps", m.state(3), 1);
        due.is("3 nor is one fair with them", m.fair(0), 0);
        due.is("3 what is kept stays", m.again(), 2);
    }
}
