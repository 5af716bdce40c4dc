/**
 * Promises 31 to 42, 44 and 45: ROWS, SHEETS, SHELVES, ACTS, and markets kept. Edges: RowsEdges, SheetsEdges, ShelvesEdges,
 * KeptEdges.
 */
public final class ThingsTest {
    private static final Due due = new Due("ThingsTest");

    public static void main(String[] args) {
        promises31To33();
        promise34();
        promise35();
        promises36To38();
        promises39And40();
        promises41And42();
        actsOfThoseWhoAreThereNow();
        promises44And45();
        due.end();
    }

    private static void promises31To33() {
        WoolMarket m = Due.told("buyer truth 30 web 2; buyer truth 20 web 1;");
        due.is("31 three", m.prove(1, 3), 3);
        // 0 sees 20 less a little: 19, 19, 20; 1 sees 30 less a little: 29, 30, 30.
        int[][] want = {{0, 40, 2}, {0, 29, 3}, {0, 19, 3}};
        for (int i = 0; i < 3; i++) {
            for (int what = 0; what < 3; what++) {
                due.is("32 row " + i + " " + what, m.row(i, what), want[i][what]);
            }
        }
        due.is("33 alter", m.alterRow(2, 1, -77), 19);
        due.is("33 it is so", m.row(2, 1), -77);
        due.is("33 it was", m.alterRow(2, 1, 19), -77);
        due.is("31 fewer", m.prove(0, 2), 2);
        due.is("32 of the other one now", m.row(0, 1), 60);
    }

    private static void promise34() {
        WoolMarket m = Due.told("buyer truth 30 web 20; buyer truth 20 web 9;");
        m.prove(0, 10);
        due.is("34 right", m.judge(0), 0);
        due.is("34 of another", m.judge(1), 1);
        for (int what = 0; what < 3; what++) {
            int was = m.alterRow(9, what, 5000);
            due.is("34 the tenth", m.judge(0), 10);
            int first = m.alterRow(4, what, 5000);
            due.is("34 the first that isn't", m.judge(0), 5);
            m.alterRow(4, what, first);
            m.alterRow(9, what, was);
            due.is("34 right again", m.judge(0), 0);
        }
        m.change(0, 4, 51);
        due.is("34 from how it is now", m.judge(0), 1);
    }

    private static void promise35() {
        WoolMarket m = Due.told("buyer; buyer; buyer; buyer web 7;");
        m.sheet(1, 0, 5);
        int[] bytes = {99, 100, 127, -128, 42};
        for (int i = 0; i < 5; i++) {
            m.put(1, i, bytes[i]);
        }
        due.is("35 three", m.minds(1, 2, 0, 3), 3);
        int[] webs = {99, 0, 42, 7};
        for (int i = 0; i < 4; i++) {
            due.is("35 web", m.of(i, 3), webs[i]);
        }
        due.is("35 to the last", m.minds(1, 0, 2, 2), 2);
        due.is("35 web", m.of(2, 3), 99);
        due.is("35 web", m.of(3, 3), 99);
    }

    private static void promises36To38() {
        WoolMarket m = new WoolMarket();
        long[] narrow = {(byte) 0x12345687, (short) 0x12345687, 0x12345687, 0x12345687};
        for (int sort = 0; sort < 4; sort++) {
            due.is("36 sheet", m.sheet(sort, sort, 40), 1);
            due.is("37 put", m.put(sort, 39, 0x12345687), 1);
            due.is("38 item", m.item(sort, sort, 39), narrow[sort]);
            due.is("38 others", m.item(sort, sort, 38), 0);
            due.is("38 another sort", m.item(sort, (sort + 1) % 4, 39), -13);
        }
        due.is("36 all 0 again", m.sheet(0, 0, 40), 1);
        due.is("38 all 0 again", m.item(0, 0, 39), 0);
        due.is("38 all 0 again", m.item(0, 0, 0), 0);
        due.is("36 of another sort", m.sheet(0, 2, 5), 1);
        due.is("37 put", m.put(0, 4, 70000), 1);
        due.is("38 item", m.item(0, 2, 4), 70000);
        due.is("36 missing", m.sheet(0, -1, 0), 1);
        due.is("38 missing", m.item(0, 2, 4), -11);
    }

    private static void promises39And40() {
        WoolMarket m = Due.told("buyer; wife; magistrate; knitter; clerk; uncle;");
        for (int kind = 0; kind < 6; kind++) {
            due.is("39 one", m.shelf(kind % 4, 0, kind), 1);
            due.is("40 as what it is", m.taken(kind % 4, kind), kind);
            due.is("40 as a buyer", m.taken(kind % 4, 0), kind);
        }
        m.sheet(2, 1, 17);
        due.is("39 a row", m.shelf(0, 1, 2), 1);
        due.is("40 how many items", m.taken(0, 11), 17);
        m.mind(5, 3, 0);
        due.is("40 of the kind that it is now", m.taken(1, 1), 5);
        Due.read(m, "buyer;");
        due.is("40 no such one at the time", m.taken(1, 1), -11);
        Due.read(m, "buyer;buyer;buyer;buyer;buyer;clerk;");
        due.is("40 such a one again", m.taken(1, 2), 5);
    }

    private static void promises41And42() {
        WoolMarket m = Due.told("buyer truth 9;buyer truth 9;wife truth 5;magistrate truth 5;knitter truth 7;clerk truth 9;uncle truth 2;");
        // Buyer 1: n 1, a 9.
        acts(m, 1, 0, 5, 9, 10);
        acts(m, 1, 1, 5, 18, 11, 10);
        acts(m, 1, 2, -17, -2, 12);
        acts(m, 1, 3, 5, 18 ^ 24, 13, 11, 10);
        // Wife 2: n 2, a 5.
        acts(m, 2, 0, 1, 9, 10);
        acts(m, 2, 1, 1, 27 - 5 - 6, 20, 11, 10);
        acts(m, 2, 2, 10, 3, 12);
        acts(m, 2, 3, 1, 16 ^ 24, 13, 20, 11, 10);
        // Magistrate 3: n 3, a 5; it parts n by 2.
        acts(m, 3, 0, 1, 13 ^ 2, 30, 10);
        acts(m, 3, 1, 1, 15 * 3 - 5, 11, 30, 10);
        acts(m, 3, 2, 9, 4, 12);
        acts(m, 3, 3, 1, (40 ^ 24) + 1, 31, 13, 11, 30, 10, 12);
        // Knitter 4: n 4, a 7.
        acts(m, 4, 0, 1, 24, 51, 10);
        acts(m, 4, 1, 1, 72 - 7 - 6, 20, 11, 51, 10);
        acts(m, 4, 2, 12, 6, 50, 12);
        acts(m, 4, 3, 1, 59 ^ 24, 13, 20, 11, 51, 10);
        // Clerk 5: n 5, a 9; it sees 3 less 21 ^ 2 of 1, and 3 less 29 ^ 2 of 9.
        acts(m, 5, 0, 1, 3 - 23, 40, 30, 10);
        int paid = (-20 * 3 - 9) ^ (3 - 31);
        acts(m, 5, 1, 1, paid, 41, 11, 40, 30, 10, 40, 30, 10);
        acts(m, 5, 2, -7, -1, 12);
        acts(m, 5, 3, 1, (paid ^ 24) + 1, 31, 13, 41, 11, 40, 30, 10, 40, 30, 10, 12);
        // Uncle 6: n 6, a 2; it sees 30 of n.
        acts(m, 6, 0, 1, 25, 10);
        acts(m, 6, 1, 1, 73, 11, 10);
        acts(m, 6, 2, 9, -2 - 30, 61, 12, 10);
        acts(m, 6, 3, 1, (73 ^ 24) * 5, 60, 13, 11, 10);
        // Where 2 is in it already, ^ 2 takes it away.
        acts(m, 3, 0, 2, 12, 30, 10);
        acts(m, 5, 0, 2, 3 - 20, 40, 30, 10);
        // Numbers wrap.
        acts(m, 1, 0, Integer.MAX_VALUE, Integer.MIN_VALUE + 3, 10);
        m.change(5, 1, 4);
        acts(m, 5, 2, Integer.MIN_VALUE, Integer.MIN_VALUE, 12);
        m.change(4, 1, 5);
        acts(m, 4, 2, Integer.MIN_VALUE, -2, 50, 12);
        acts(m, 0, 3, 1_000_000_000, (int) (3_000_000_000L - 9) ^ 24, 13, 11, 10);
    }

    private static void acts(WoolMarket m, int person, int act, int x, int answer, int... bodies) {
        String call = "41 act " + act + " of " + person;
        m.shelf(3, 0, person);
        due.is(call, m.act(3, act, x), answer);
        due.is("42 how many, " + call, m.many(6), bodies.length);
        for (int i = 0; i < bodies.length; i++) {
            due.is("42 body " + i + ", " + call, m.trace(i), bodies[i]);
        }
        due.is("42 beyond, " + call, m.trace(bodies.length), -3);
        due.is("42 below, " + call, m.trace(-1), -3);
    }

    /** A SHELF holds a number: what acts is who bears it at the time, of the kind and truth of that time. */
    private static void actsOfThoseWhoAreThereNow() {
        WoolMarket m = Due.told("buyer truth 9;wife;");
        m.shelf(0, 0, 0);
        due.is("41 buyer", m.act(0, 1, 5), 6);
        m.mind(0, 1, 0);
        due.is("41 wife", m.act(0, 1, 5), 0);
        m.change(0, 1, 2);
        due.is("41 of another truth", m.act(0, 1, 5), 7);
        m.trade(0, 1);
        due.is("41 the other wife", m.act(0, 1, 5), 9);
        Due.read(m, "clerk truth 9;");
        due.is("41 the clerk of another market", m.act(0, 0, 5), 3 - 7);
    }

    private static void promises44And45() {
        WoolMarket m = Due.told("buyer truth 9; clerk truth 8 web 7; toll 3; slip 44;");
        due.is("45 nothing is kept", m.again(), -3);
        m.seed(321);
        m.days(2);
        int coins = m.of(0, 4);
        due.is("44 keep", m.keep(), 1);
        m.feed(0, 2);
        m.prove(0, 3);
        m.sheet(0, 0, 2);
        m.shelf(0, 0, 1);
        m.act(0, 0, 1);
        m.day();
        m.set(2, 8);
        m.person(0, 0, 0, 0);
        m.change(0, 4, 0);
        m.mind(1, 5, 9);
        m.trade(0, 1);
        due.is("45 again", m.again(), 2);
        due.is("45 day", m.state(0), 2);
        due.is("45 chest", m.state(1), 12);
        due.is("45 toll", m.lawOf(2), 3);
        due.is("45 slip", m.lawOf(3), 44);
        due.is("45 coins", m.of(0, 4), coins);
        due.is("45 kind", m.of(1, 0), 4);
        due.is("45 z", m.seed(5), 321);
        due.is("45 tape", m.many(5), 2);
        due.is("45 rows", m.many(4), 3);
        due.is("45 sheets", m.item(0, 0, 1), 0);
        due.is("45 shelves", m.taken(0, 2), 1);
        due.is("45 trace", m.many(6), 3);
        m.days(60);
        due.is("45 it stays", m.again(), 2);
        due.is("45 it stays", m.state(0), 2);
        due.is("45 z", m.seed(6), 321);
        m.person(1, 1, 1, 1);
        due.is("44 the latest", m.keep(), 1);
        Due.read(m, "");
        due.is("45 the latest", m.again(), 3);
        WoolMarket nobody = new WoolMarket();
        nobody.keep();
        nobody.person(0, 0, 0, 0);
        due.is("45 nobody", nobody.again(), 0);
        due.is("45 nobody", nobody.many(0), 0);
    }
}
