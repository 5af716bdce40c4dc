/** Edges of promises 43 to 45: how many there are, and markets kept. */
final class KeptEdges {
    private KeptEdges() {
    }

    private static void promise43_whatIs0To6(Due due) {
        WoolMarket m = Due.told("buyer web 4;uncle web 4;clerk wish 50 coins 0;magistrate web 3;");
        m.feed(0, 3);
        m.prove(0, 7);
        m.shelf(1, 0, 0);
        m.act(1, 1, 0);
        int[] want = {4, 1, 3, 2, 7, 3, 2};
        for (int what = 0; what < want.length; what++) {
            due.is("many " + what, m.many(what), want[what]);
        }
        new Twins(due).outside(0, 6, "many", Twins.V);
    }

    private static void promise43_noneOfANewObject(Due due) {
        WoolMarket m = new WoolMarket();
        for (int what = 0; what <= 6; what++) {
            due.is("many " + what, m.many(what), 0);
        }
    }

    private static void promise43_theMostOfAll(Due due) {
        WoolMarket m = Due.told("knitter truth 50;".repeat(8));
        for (int i = 0; i < 25; i++) {
            m.feed(32, 8);
        }
        m.prove(7, 10);
        int[] want = {8, 8, 8, 8, 10, 200};
        for (int what = 0; what < want.length; what++) {
            due.is("many " + what, m.many(what), want[what]);
        }
    }

    private static void promise43_oneCoinIsSome(Due due) {
        due.is("COINS", Due.told("buyer coins 0;buyer coins 1;buyer coins 999;").many(2), 2);
    }

    /** Of a web of 1 a wife wears nothing, of 3 a magistrate; a knitter wears WEFT, a clerk a tenth of its wish. */
    private static void promise43_wearing1IsSomething(Due due) {
        due.is("a buyer", Due.told("buyer;buyer web 1;").many(3), 1);
        due.is("a wife", Due.told("wife web 1;wife web 2;").many(3), 1);
        due.is("a magistrate", Due.told("magistrate web 3;magistrate web 4;").many(3), 1);
        due.is("a knitter", Due.told("knitter;weft 1;").many(3), 1);
        due.is("a knitter without WEFT", Due.told("knitter web 1;weft 0;").many(3), 0);
        due.is("a clerk", Due.told("clerk wish 9;clerk wish 10;").many(3), 1);
        due.is("an uncle", Due.told("uncle web 99;").many(3), 0);
    }

    private static void promise43_aWebOf1IsNotOnTheSteps(Due due) {
        due.is("ON THE STEPS", Due.told("buyer;buyer web 1;wife web 1;wife;").many(1), 2);
    }

    private static void promise44_nobodyMayBeKept(Due due) {
        WoolMarket m = new WoolMarket();
        due.is("keep", m.keep(), 1);
        m.person(0, 1, 1, 1);
        due.is("again", m.again(), 0);
        due.is("nobody", m.many(0), 0);
    }

    private static void promise44_eightAreKept(Due due) {
        WoolMarket m = new WoolMarket();
        for (int i = 0; i < 8; i++) {
            m.person(i % 6, 10 + i, 20 + i, 30 + i);
            m.change(i, 4, 9000 + i);
        }
        m.keep();
        Due.read(m, "");
        due.is("again", m.again(), 8);
        for (int i = 0; i < 8; i++) {
            int[] want = {i % 6, 10 + i, 20 + i, 30 + i, 9000 + i};
            for (int what = 0; what < 5; what++) {
                due.is("of " + i + ", " + what, m.of(i, what), want[what]);
            }
        }
    }

    private static void promise44_theLatestTakesThePlaceOfTheOneBefore(Due due) {
        WoolMarket m = Due.told("buyer;buyer;buyer;");
        m.keep();
        Due.read(m, "wife;");
        m.keep();
        Due.read(m, "uncle;uncle;");
        due.is("again", m.again(), 1);
        due.is("the wife", m.of(0, 0), 1);
    }

    private static void promise44_lawsDayChestAndZAreKept(Due due) {
        WoolMarket m = Due.told("buyer truth 9;buyer truth 9;weft 9;fray 8;toll 7;slip 99;");
        m.days(2);
        m.seed(Integer.MIN_VALUE);
        m.keep();
        m.days(1);
        for (int law = 0; law < 4; law++) {
            m.set(law, 1);
        }
        m.seed(5);
        m.again();
        int[] laws = {9, 8, 7, 99};
        for (int law = 0; law < 4; law++) {
            due.is("law " + law, m.lawOf(law), laws[law]);
        }
        due.is("DAY", m.state(0), 2);
        due.is("CHEST", m.state(1), 28);
        due.is("z", m.seed(1), Integer.MIN_VALUE);
    }

    private static void promise44_nothingElseChanges(Due due) {
        WoolMarket asked = Twins.busy();
        WoolMarket other = Twins.busy();
        due.is("keep", asked.keep(), 1);
        due.is("keep", asked.keep(), 1);
        other.keep();
        new Twins(due).areAlike("keep", asked, other);
    }

    private static void promise45_noneWhereNothingIsKept(Due due) {
        WoolMarket m = Due.told("buyer truth 9;buyer;slip 3;");
        m.days(1);
        due.is("again", m.again(), -3);
        due.is("people stay", m.many(0), 2);
        due.is("DAY stays", m.state(0), 1);
        due.is("laws stay", m.lawOf(3), 3);
    }

    private static void promise45_whatIsKeptStays(Due due) {
        WoolMarket m = Due.told("buyer;buyer;");
        m.keep();
        for (int round = 0; round < 3; round++) {
            m.days(5);
            m.change(0, 1, 77);
            m.person(0, 0, 0, 0);
            due.is("again", m.again(), 2);
            due.is("DAY", m.state(0), 0);
            due.is("truth", m.of(0, 1), 0);
        }
    }

    /** THE TAPE, ROWS, SHEETS, SHELVES and THE TRACE are not kept: they stay as they are. */
    private static void promise45_theOtherThingsStay(Due due) {
        WoolMarket m = Twins.busy();
        m.keep();
        m.feed(0, 5);
        m.prove(0, 9);
        m.sheet(0, 1, 2);
        m.put(0, 1, 555);
        m.shelf(0, 0, 2);
        m.act(2, 0, 1);
        due.is("again", m.again(), 5);
        due.is("THE TAPE", m.many(5), 5);
        due.is("ROWS", m.many(4), 9);
        due.is("SHEETS", m.item(0, 1, 1), 555);
        due.is("SHELVES", m.taken(0, 4), 2);
        due.is("THE TRACE", m.trace(0), 30);
        due.is("THE TRACE", m.many(6), 2);
    }
}
