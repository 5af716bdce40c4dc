/** Promises 18 to 30: what is tried, pairs, odds. */
public final class AskedTest {
    private static final Due due = new Due("AskedTest");

    public static void main(String[] args) {
        promise18();
        promises19To21();
        promise22();
        promise23();
        promise24();
        promise25();
        promise26();
        promise27();
        promise28();
        promise29();
        promise30();
        due.end();
    }

    private static void promise18() {
        WoolMarket m = Due.told("buyer truth 30; buyer truth 20 coins 600;");
        due.is("18 now", m.purse(1, 0), 600);
        due.is("18 a day", m.purse(1, 1), 590);
        due.is("18 most", m.purse(0, 60), 650);
        due.is("18 nothing changes", m.state(0), 0);
        due.is("18 nothing changes", m.of(0, 4), 50);
        due.is("18 above", m.purse(0, 61), -1);
        due.is("18 below", m.purse(0, -1), -1);
        due.is("18 no such one", m.purse(2, 0), -1);
        due.is("18 no such one", m.purse(-1, 0), -1);
    }

    private static void promises19To21() {
        WoolMarket m = Due.told("buyer web 60; buyer web 61; buyer;");
        due.is("19 by the last", m.steps(0), 60);
        due.is("19 not by then", m.steps(1), -3);
        due.is("19 now", m.steps(2), 0);
        due.is("20 not by then", m.all(), -3);
        m.change(1, 3, 60);
        due.is("20 by the last", m.all(), 60);
        due.is("19 no such one", m.steps(3), -1);
        due.is("19 no such one", m.steps(-1), -1);
        due.is("20 nobody", new WoolMarket().all(), 0);
        // A wife's web is mended, so that she stands on the steps before all others and never with them.
        WoolMarket wife = Due.told("wife; buyer web 1;");
        due.is("19 wife", wife.steps(0), 0);
        due.is("20 never all at once", wife.all(), -3);
        due.is("20 all now", Due.told("wife; buyer;").all(), 0);

        WoolMarket poor = Due.told("buyer coins 60; buyer truth 1; buyer coins 0;");
        due.is("21 by the last", poor.poor(0), 60);
        due.is("21 now", poor.poor(2), 0);
        due.is("21 never", poor.poor(1), -3);
        poor.change(0, 4, 61);
        due.is("21 not by then", poor.poor(0), -3);
        due.is("21 no such one", poor.poor(3), -1);
        due.is("21 no such one", poor.poor(-1), -1);
        due.is("21 nothing changes", poor.state(0), 0);
    }

    private static void promise22() {
        // With web w it sees 99 * (99 - w) / 99 and so pays that less.
        WoolMarket m = Due.told("buyer; buyer truth 99; fray 0;");
        due.is("22 the thickest", m.webFor(0, 1), 99);
        m.change(0, 4, 0);
        due.is("22 of several the least", m.webFor(0, 1), 0);
        m.change(0, 4, 50);
        m.change(1, 1, 0);
        m.mind(0, 0, 99);
        due.is("22 none", m.webFor(0, 20), 0);
        due.is("22 nothing changes", m.of(0, 3), 0);
        askedRefusals("22", m.webFor(2, 1), m.webFor(-1, 1), m.webFor(0, 0), m.webFor(0, 21));
    }

    private static void promise23() {
        // They offer 99, 97, 104, 194, 52, 89: of 200 coins the clerk keeps most.
        WoolMarket m = Due.told("buyer coins 200; buyer truth 99;");
        due.is("23 the clerk", m.kindFor(0, 1), 4);
        // They offer 4, 2, 9, 4, 4, -6.
        m.change(1, 1, 4);
        due.is("23 the uncle", m.kindFor(0, 1), 5);
        m.change(1, 1, 0);
        due.is("23 of wife, knitter, uncle, buyer the least", m.kindFor(0, 1), 0);
        due.is("23 nothing changes", m.of(0, 0), 0);
        askedRefusals("23", m.kindFor(2, 1), m.kindFor(-1, 1), m.kindFor(0, 0), m.kindFor(0, 21));
    }

    private static void promise24() {
        // Through a web of 49 a wish w makes it offer the quotient of 49 * w by 99.
        WoolMarket m = Due.told("uncle web 99; buyer web 49;");
        due.is("24 the first", m.wishFor(1, 1, 50), 0);
        due.is("24 none above", m.wishFor(1, 1, 51), -3);
        due.is("24 zero", m.wishFor(1, 20, 0), 0);
        due.is("24 most", m.wishFor(1, 20, 9999), -3);
        WoolMarket clerk = Due.told("clerk wish 5; buyer truth 99; fray 0;");
        due.is("24 the wish as it is counts nothing", clerk.wishFor(0, 1, 0), 0);
        due.is("24 nothing changes", clerk.of(0, 2), 5);
        WoolMarket some = Due.told("clerk; buyer truth 60; fray 0;");
        // It wears a tenth of its wish, and offers half of 5 more than it sees of 60.
        int first = -3;
        for (int wish = 99; wish >= 0; wish--) {
            int seen = (60 * (99 - wish / 10) + wish * (wish / 10)) / 99;
            first = 50 - (seen + 5) / 2 >= 19 ? wish : first;
        }
        due.is("24 the least that does", some.wishFor(0, 1, 19), first);
        due.is("24 v above", some.wishFor(0, 1, 10000), -1);
        due.is("24 v below", some.wishFor(0, 1, -1), -1);
        askedRefusals("24", some.wishFor(2, 1, 1), some.wishFor(-1, 1, 1), some.wishFor(0, 0, 1), some.wishFor(0, 21, 1));
    }

    private static void promise25() {
        // Behind 0 comes 1, who is worth 40; in the place of 1 it would pay 2, who is worth 10; in that of 2, itself.
        WoolMarket m = Due.told("buyer; buyer truth 40; buyer truth 10; fray 0;");
        due.is("25 purse", m.purse(0, 1), 10);
        due.is("25 with the one before the cheapest", m.changeFor(0, 1), 1);
        due.is("25 nothing changes", m.of(0, 1), 0);
        due.is("25 two", Due.told("buyer; buyer truth 40;").changeFor(0, 1), -3);
        due.is("25 alone", Due.told("buyer;").changeFor(0, 20), -3);
        // All are the same to it: of several the least, and none if it isn't more.
        due.is("25 no more", Due.told("buyer; buyer; buyer;").changeFor(1, 3), -3);
        // In the place of 0 it pays itself's old neighbour nothing: 0 is worth 40, and 1 would pay 2, worth 0.
        due.is("25 with the first", Due.told("buyer truth 40; buyer; buyer;").changeFor(2, 1), 0);
        WoolMarket four = Due.told("buyer truth 1; buyer truth 20; buyer; buyer;");
        due.is("25 of several the least", four.changeFor(0, 1), 1);
        askedRefusals("25", m.changeFor(3, 1), m.changeFor(-1, 1), m.changeFor(0, 0), m.changeFor(0, 21));
    }

    private static void askedRefusals(String promise, int... answers) {
        for (int answer : answers) {
            due.is(promise + " refused", answer, -1);
        }
    }

    private static void promise26() {
        WoolMarket m = Due.told("buyer truth 7; buyer truth 7; uncle truth 17; wife truth 9; uncle truth 17;");
        // What 0 to 4 offer the others: truths 7, 7, 17, 9, 17; uncles 10 less, the wife 2 less.
        due.is("26 with 0", m.fair(0), 2);
        due.is("26 with 1", m.fair(1), 1);
        due.is("26 with 2", m.fair(2), 16);
        due.is("26 with 4", m.fair(4), 4);
        due.is("26 pairs", m.state(5), 2);
        m.change(3, 1, 5);
        due.is("26 buyers and the wife", m.fair(3), 3);
        WoolMarket below = Due.told("uncle; wife truth 1; wife truth 1; weft 1; uncle;");
        due.is("26 two below 0", below.fair(0), 8);
        due.is("26 at 0", below.fair(1), 4);
        due.is("26 no such one", m.fair(5), -1);
        due.is("26 no such one", m.fair(-1), -1);
    }

    private static void promise27() {
        due.is("27 nobody", new WoolMarket().paired(), 0);
        due.is("27 alone", Due.told("buyer truth 9;").paired(), 0);
        due.is("27 two", Due.told("buyer truth 9; buyer truth 5;").paired(), 14);
        due.is("27 three", Due.told("buyer truth 9; buyer truth 5; buyer truth 6;").paired(), 15);
        due.is("27 each 0 at least", Due.told("uncle truth 3; uncle truth 30;").paired(), 20);
        // The buyers are worth most as one pair (16, and the uncles 10), but each with an uncle more (15 and 15).
        WoolMarket m = Due.told("uncle truth 15; uncle truth 15; buyer truth 8; buyer truth 8;");
        due.is("27 together", m.paired(), 30);
        m.person(0, 8, 0, 0);
        due.is("27 with one more buyer an uncle stays alone", m.paired(), 31);
        WoolMarket eight = Due.told("buyer truth 1; buyer truth 2; buyer truth 3; buyer truth 4; buyer truth 5; buyer truth 6; buyer truth 7; buyer truth 8;");
        due.is("27 eight", eight.paired(), 36);
    }

    private static void promise28() {
        WoolMarket m = Due.told("buyer; buyer truth 99; fray 0;");
        // With web w it pays 99 - w a day, of 50.
        due.is("28 missing", m.fits(0, 0, 0), -11);
        m.sheet(0, 2, 0);
        due.is("28 an empty row fits all", m.fits(0, 0, 0), 100);
        due.is("28 the least", m.fits(0, 0, 1), 0);
        m.sheet(0, 3, 2);
        m.put(0, 0, 20);
        m.put(0, 1, -1);
        due.is("28 one", m.fits(0, 0, 0), 1);
        due.is("28 which", m.fits(0, 0, 1), 69);
        m.put(0, 1, 1);
        due.is("28 not behind 2", m.fits(0, 0, 0), 0);
        due.is("28 none", m.fits(0, 0, 1), -3);
        m.put(0, 0, 0);
        m.put(0, 1, 0);
        due.is("28 many", m.fits(0, 0, 0), 50);
        due.is("28 the least of many", m.fits(0, 0, 1), 0);
        m.sheet(1, 0, 40);
        for (int i = 0; i < 40; i++) {
            m.put(1, i, i == 39 ? 11 : -1);
        }
        due.is("28 behind 40 days", m.fits(1, 0, 0), 0);
        m.put(1, 39, 10);
        due.is("28 behind 40 days", m.fits(1, 0, 1), 98);
        due.is("28 nothing changes", m.of(0, 3), 0);
        due.is("28 no such sheet", m.fits(4, 0, 0), -1);
        due.is("28 no such sheet", m.fits(-1, 0, 0), -1);
        due.is("28 no such one", m.fits(2, 2, 0), -1);
        due.is("28 no such what", m.fits(2, 0, 2), -1);
        due.is("28 no such what", m.fits(2, 0, -1), -1);
    }

    private static void promise29() {
        WoolMarket m = new WoolMarket();
        due.is("29 of none", m.odds(0, 0, 0), 1);
        due.is("29 of none", m.odds(0, 0, 1), 1);
        m.set(3, 50);
        due.is("29 4 of 8", m.odds(8, 4, 0), 35);
        due.is("29 4 of 8", m.odds(8, 4, 1), 128);
        m.set(3, 99);
        due.is("29 0 of 8", m.odds(8, 0, 0), 1);
        due.is("29 0 of 8", m.odds(8, 0, 1), 10_000_000_000_000_000L);
        due.is("29 8 of 8", m.odds(8, 8, 0), 9_227_446_944_279_201L);
        m.set(3, 0);
        due.is("29 none slips", m.odds(8, 0, 1), 1);
        due.is("29 0 is 0 by 1", m.odds(8, 3, 0), 0);
        due.is("29 0 is 0 by 1", m.odds(8, 3, 1), 1);
        int[][] wrong = {{-1, 0, 0}, {9, 0, 0}, {3, -1, 0}, {3, 4, 0}, {3, 1, 2}, {3, 1, -1}};
        for (int[] w : wrong) {
            due.is("29 wrong", m.odds(w[0], w[1], w[2]), -1);
        }
        for (int slip = 0; slip < 100; slip++) {
            m.set(3, slip % 100);
            due.is("29 of one", m.odds(1, 1, 0) * 100, slip * m.odds(1, 1, 1));
        }
    }

    private static void promise30() {
        WoolMarket m = new WoolMarket();
        due.is("30 of 7", m.hope(7, 0), 7);
        due.is("30 of 7", m.hope(7, 1), 5);
        m.set(3, 99);
        due.is("30 most", m.hope(99, 0), 9801);
        due.is("30 most", m.hope(99, 1), 100);
        due.is("30 of none", m.hope(0, 0), 0);
        due.is("30 of none", m.hope(0, 1), 1);
        due.is("30 above", m.hope(100, 0), -1);
        due.is("30 below", m.hope(-1, 0), -1);
        due.is("30 no such part", m.hope(1, 2), -1);
        due.is("30 no such part", m.hope(1, -1), -1);
    }
}
