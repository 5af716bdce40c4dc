/** Promises 18 to 30: what is tried, pairs, odds. Edges: TriedEdges, PairsEdges. */
public final class AskedTest {
    private static final Due due = new Due("AskedTest");

    public static void main(String[] args) {
        promise18();
        promises19To21();
        promise22();
        promise23();
        promise24();
        promise25();
        promise26();
        promise27();
        promise28();
        promise29();
        promise30();
        due.end();
    }

    private static void promise18() {
        WoolMarket m = Due.told("buyer truth 30; buyer truth 20 coins 600;");
        due.is("18 now", m.purse(1, 0), 600);
        due.is("18 a day", m.purse(1, 1), 590);
        due.is("18 most", m.purse(0, 60), 650);
    }

    private static void promises19To21() {
        WoolMarket m = Due.told("buyer web 30; buyer web 31; uncle web 99; magistrate truth 1 web 9;");
        due.is("19 buyer", m.steps(0), 30);
        due.is("19 buyer", m.steps(1), 31);
        due.is("19 uncle", m.steps(2), 10);
        due.is("19 magistrate", m.steps(3), 5);
        due.is("20 the last of them", m.all(), 31);
        // The uncle pays nothing, for it offers 9 less than nothing.
        due.is("21 uncle", m.poor(2), -3);
        // A magistrate offers 5 and no more.
        due.is("21 magistrate", m.poor(3), 10);
    }

    private static void promise22() {
        // With web w it sees 99 * (99 - w) / 99 and so pays that less.
        WoolMarket m = Due.told("buyer; buyer truth 99; fray 0;");
        due.is("22 the thickest", m.webFor(0, 1), 99);
        m.change(0, 4, 0);
        due.is("22 of several the least", m.webFor(0, 1), 0);
        m.change(0, 4, 50);
        m.change(1, 1, 0);
        m.mind(0, 0, 99);
        due.is("22 none", m.webFor(0, 20), 0);
    }

    private static void promise23() {
        // They offer 99, 97, 104, 194, 52, 89: of 200 coins the clerk keeps most.
        WoolMarket m = Due.told("buyer coins 200; buyer truth 99;");
        due.is("23 the clerk", m.kindFor(0, 1), 4);
        // They offer 4, 2, 9, 2, 4, -6.
        m.change(1, 1, 4);
        due.is("23 the uncle", m.kindFor(0, 1), 5);
        m.change(1, 1, 0);
        due.is("23 of wife, knitter, uncle, buyer the least", m.kindFor(0, 1), 0);
    }

    private static void promise24() {
        // Through a web of 49 a wish w makes it offer the quotient of 49 * w by 99.
        WoolMarket m = Due.told("uncle web 99; buyer web 49;");
        due.is("24 the first", m.wishFor(1, 1, 50), 0);
        due.is("24 none above", m.wishFor(1, 1, 51), -3);
        WoolMarket clerk = Due.told("clerk wish 5; buyer truth 99; fray 0;");
        due.is("24 the wish as it is counts nothing", clerk.wishFor(0, 1, 0), 0);
        WoolMarket some = Due.told("clerk; buyer truth 60; fray 0;");
        // It wears a tenth of its wish, and offers half of 5 more than it sees of 60.
        int first = -3;
        for (int wish = 99; wish >= 0; wish--) {
            int seen = (60 * (99 - wish / 10) + wish * (wish / 10)) / 99;
            first = 50 - (seen + 5) / 2 >= 19 ? wish : first;
        }
        due.is("24 the least that does", some.wishFor(0, 1, 19), first);
    }

    private static void promise25() {
        // Behind 0 comes 1, who is worth 40; in the place of 1 it would pay 2, who is worth 10; in that of 2, itself.
        WoolMarket m = Due.told("buyer; buyer truth 40; buyer truth 10; fray 0;");
        due.is("25 purse", m.purse(0, 1), 10);
        due.is("25 with the one before the cheapest", m.changeFor(0, 1), 1);
        // In the place of 0 it pays itself's old neighbour nothing: 0 is worth 40, and 1 would pay 2, worth 0.
        due.is("25 with the first", Due.told("buyer truth 40; buyer; buyer;").changeFor(2, 1), 0);
    }

    private static void promise26() {
        WoolMarket m = Due.told("buyer truth 7; buyer truth 7; uncle truth 17; wife truth 9; uncle truth 17;");
        // What 0 to 4 offer the others: truths 7, 7, 17, 9, 17; uncles 10 less, the wife 2 less.
        due.is("26 with 0", m.fair(0), 2);
        due.is("26 with 1", m.fair(1), 1);
        due.is("26 with 2", m.fair(2), 16);
        due.is("26 with 4", m.fair(4), 4);
        due.is("26 pairs", m.state(5), 2);
        m.change(3, 1, 5);
        due.is("26 buyers and the wife", m.fair(3), 3);
        WoolMarket below = Due.told("uncle; wife truth 1; wife truth 1; weft 1; uncle;");
        due.is("26 two below 0", below.fair(0), 8);
        due.is("26 at 0", below.fair(1), 4);
    }

    private static void promise27() {
        // The buyers are worth most as one pair (16, and the uncles 10), but each with an uncle more (15 and 15).
        WoolMarket m = Due.told("uncle truth 15; uncle truth 15; buyer truth 8; buyer truth 8;");
        due.is("27 together", m.paired(), 30);
        m.person(0, 8, 0, 0);
        due.is("27 with one more buyer an uncle stays alone", m.paired(), 31);
    }

    private static void promise28() {
        WoolMarket m = Due.told("buyer; buyer truth 99; fray 0;");
        // With web w it pays 99 - w a day, of 50.
        m.sheet(0, 3, 2);
        m.put(0, 0, 20);
        m.put(0, 1, -1);
        due.is("28 one", m.fits(0, 0, 0), 1);
        due.is("28 which", m.fits(0, 0, 1), 69);
        m.put(0, 1, 1);
        due.is("28 not behind 2", m.fits(0, 0, 0), 0);
        due.is("28 none", m.fits(0, 0, 1), -3);
        m.put(0, 0, 0);
        m.put(0, 1, 0);
        due.is("28 many", m.fits(0, 0, 0), 50);
        due.is("28 the least of many", m.fits(0, 0, 1), 0);
    }

    private static void promise29() {
        WoolMarket m = new WoolMarket();
        due.is("29 1 of 3, a fifth each", m.odds(3, 1, 0), 48);
        due.is("29 1 of 3, a fifth each", m.odds(3, 1, 1), 125);
        m.set(3, 50);
        due.is("29 4 of 8", m.odds(8, 4, 0), 35);
        due.is("29 4 of 8", m.odds(8, 4, 1), 128);
        for (int slip = 0; slip < 100; slip++) {
            m.set(3, slip);
            due.is("29 of one", m.odds(1, 1, 0) * 100, slip * m.odds(1, 1, 1));
        }
    }

    private static void promise30() {
        WoolMarket m = new WoolMarket();
        due.is("30 of 7", m.hope(7, 0), 7);
        due.is("30 of 7", m.hope(7, 1), 5);
        m.set(3, 35);
        due.is("30 of 30", m.hope(30, 0), 21);
        due.is("30 of 30", m.hope(30, 1), 2);
    }
}
