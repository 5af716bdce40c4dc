/** Promises 2 and 3: THE TAPE and TEXT. */
public final class TextTest {
    private static final Due due = new Due("TextTest");

    public static void main(String[] args) {
        promise2();
        promise3();
        faults();
        what3Leaves();
        due.end();
    }

    private static void promise2() {
        WoolMarket m = new WoolMarket();
        due.is("2 none", m.feed(1, 0), -1);
        due.is("2 below", m.feed(1, -1), -1);
        due.is("2 nine", m.feed(1, 9), -1);
        due.is("2 one", m.feed(0x20, 1), 1);
        // 'wife;' with the lowest byte first, and three bytes above that are not taken.
        due.is("2 five", m.feed(0x7777773b65666977L, 5), 6);
        due.is("2 in order", m.market(), 1);
        due.is("2 wife", m.of(0, 0), 1);
        for (int i = 1; i <= 24; i++) {
            due.is("2 eights", m.feed(-1L, 8), i * 8);
        }
        due.is("2 to 199", m.feed(0, 7), 199);
        due.is("2 above 200", m.feed(0, 2), -2);
        due.is("2 wrong before full", m.feed(0, 9), -1);
        due.is("2 unchanged", m.many(5), 199);
        due.is("2 to 200", m.feed(0, 1), 200);
        due.is("2 full", m.feed(0, 1), -2);
        due.is("2 of 200 the first is a fault", m.market(), -100);
        due.is("2 used up", m.many(5), 0);
    }

    private static void promise3() {
        WoolMarket m = new WoolMarket();
        due.is("3 empty", m.market(), 0);
        due.is("3 blanks", Due.read(m, "   "), 0);
        due.is("3 all", Due.read(m, "  knitter truth 99 wish 098 web 97 coins 999 ;slip 99;weft9 ; fray 0;toll 009;clerk;"), 2);
        int[] want = {3, 99, 98, 97, 999, 0};
        for (int what = 0; what < 6; what++) {
            due.is("3 knitter " + what, m.of(0, what), want[what]);
        }
        int[] laws = {9, 0, 9, 99};
        for (int law = 0; law < 4; law++) {
            due.is("3 law " + law, m.lawOf(law), laws[law]);
        }
        int[] bare = {4, 0, 0, 0, 50, 1};
        for (int what = 0; what < 6; what++) {
            due.is("3 clerk " + what, m.of(1, what), bare[what]);
        }
        due.is("3 kinds", Due.read(m, "buyer;wife;magistrate;knitter;clerk;uncle;"), 6);
        for (int kind = 0; kind < 6; kind++) {
            due.is("3 kind", m.of(kind, 0), kind);
        }
        due.is("3 the later law", Due.read(m, "fray 3;fray 4;"), 0);
        due.is("3 the later law", m.lawOf(1), 4);
        due.is("3 some traits", Due.read(m, "uncle wish 5 coins 0;"), 1);
        due.is("3 wish", m.of(0, 2), 5);
        due.is("3 coins", m.of(0, 4), 0);
    }

    private static void faults() {
        String eight = "wife;wife;wife;wife;wife;wife;wife;wife;";
        due.is("3 eight", Due.read(new WoolMarket(), eight), 8);
        due.is("3 eight and a law", Due.read(new WoolMarket(), eight + "weft 1;"), 8);
        fault(eight + " wife;", 41);
        fault(eight + "buyer truth 100;", 40);
        fault("buyer", 5);
        fault("buyer  ", 7);
        fault("buyer truth", 11);
        fault("buyer truth 9", 13);
        fault("weft", 4);
        fault("weft 3", 6);
        fault("buyers;", 0);
        fault("buye", 0);
        fault("luyer;", 0);
        fault("buyerz;", 0);
        fault(" Buyer;", 1);
        fault("buyerweb 5;", 0);
        fault("truth 5;", 0);
        fault(";", 0);
        fault("buyer;;", 6);
        fault("5;", 0);
        fault("buyer 5;", 6);
        fault("buyer truth ;", 12);
        fault("buyer truth web;", 12);
        fault("buyer truth 5 5;", 14);
        fault("buyer truth 100;", 12);
        fault("buyer truth 0001;", 12);
        fault("buyer truth -1;", 12);
        fault("buyer wish 100;", 11);
        fault("buyer web 100;", 10);
        fault("buyer coins 1000;", 12);
        fault("buyer wish 5 truth 5;", 13);
        fault("buyer coins 5 web 5;", 14);
        fault("buyer truth 5 truth 6;", 14);
        fault("buyer truth 5 weft 6;", 14);
        fault("weft 10;", 5);
        fault("fray 10;", 5);
        fault("toll 10;", 5);
        fault("slip 100;", 5);
        fault("slip 5 5;", 7);
        fault("slip five;", 5);
        fault("slip 5\n;", 6);
        fault("slip\t5;", 4);
        fault("slip 5;\u00e9", 7);
    }

    private static void fault(String text, int place) {
        WoolMarket m = Due.told("uncle truth 3; weft 7;");
        m.prove(0, 2);
        due.is("3 fault of " + text, Due.read(m, text), -100 - place);
        due.is("3 the tape is used up", m.many(5), 0);
        due.is("3 people stay", m.of(0, 1), 3);
        due.is("3 laws stay", m.lawOf(0), 7);
        due.is("3 rows stay", m.many(4), 2);
    }

    private static void what3Leaves() {
        WoolMarket m = Due.told("buyer truth 9; buyer truth 9; toll 2;");
        m.keep();
        m.seed(77);
        m.days(3);
        m.prove(0, 2);
        m.sheet(0, 0, 4);
        m.shelf(0, 0, 1);
        m.shelf(1, 0, 0);
        m.act(1, 0, 0);
        due.is("3 chest before", m.state(1), 12);
        due.is("3 read", Due.read(m, "wife; fray 0;"), 1);
        due.is("3 day", m.state(0), 0);
        due.is("3 chest", m.state(1), 0);
        due.is("3 toll as at first", m.lawOf(2), 0);
        due.is("3 no rows", m.many(4), 0);
        due.is("3 z stays", m.seed(1), 77);
        due.is("3 sheets stay", m.item(0, 0, 3), 0);
        due.is("3 shelves stay", m.taken(1, 1), 0);
        due.is("3 no such one at the time", m.taken(0, 0), -11);
        due.is("3 the trace stays", m.trace(0), 10);
        due.is("3 those who are gone have no coins", m.many(2), 1);
        due.is("3 nor anything to wear", m.many(3), 0);
        due.is("3 nor a place on the steps", m.state(3), 1);
        due.is("3 nor is one fair with them", m.fair(0), 0);
        due.is("3 what is kept stays", m.again(), 2);
    }
}
