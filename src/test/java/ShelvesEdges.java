/** Edges of promises 39 to 42: SHELVES, ACTS of the things on them, and THE TRACE. */
final class ShelvesEdges {
    private static final int NOTHING = -11, OTHER = -13, PARTED_BY_0 = -15;

    private ShelvesEdges() {
    }

    private static void promise39_shelvesAre0To3(Due due) {
        WoolMarket m = Due.told("buyer;");
        due.is("the first", m.shelf(0, 0, 0), 1);
        due.is("the last", m.shelf(3, 0, 0), 1);
        due.is("on the last", m.taken(3, 0), 0);
        new Twins(due).outside(0, 3, "shelf", Twins.V, 0, 1);
        new Twins(due).outside(0, 3, "shelf", Twins.V, 2, 1);
    }

    private static void promise39_whatIs0To2(Due due) {
        WoolMarket m = Due.told("buyer;");
        m.sheet(0, 0, 9);
        due.is("one", m.shelf(1, 0, 0), 1);
        due.is("it is", m.taken(1, 0), 0);
        due.is("a row", m.shelf(1, 1, 0), 1);
        due.is("it is", m.taken(1, 10), 9);
        due.is("nothing", m.shelf(1, 2, 0), 1);
        due.is("it is", m.taken(1, 10), NOTHING);
        new Twins(due).outside(0, 2, "shelf", 0, Twins.V, 1);
    }

    private static void promise39_onlyThoseWhoAreThere(Due due) {
        WoolMarket m = Due.told("buyer;".repeat(8));
        due.is("the first", m.shelf(0, 0, 0), 1);
        due.is("the last of eight", m.shelf(0, 0, 7), 1);
        due.is("it is", m.taken(0, 0), 7);
        due.is("a ninth", m.shelf(0, 0, 8), -1);
        new Twins(due).outside(0, Twins.PEOPLE - 1, "shelf", 0, 0, Twins.V);
    }

    private static void promise39_rowsOfSheets0To3(Due due) {
        WoolMarket m = new WoolMarket();
        m.sheet(0, 0, 4);
        m.sheet(3, 0, 5);
        due.is("of the first", m.shelf(0, 1, 0), 1);
        due.is("it is", m.taken(0, 10), 4);
        due.is("of the last", m.shelf(0, 1, 3), 1);
        due.is("it is", m.taken(0, 10), 5);
        new Twins(due).outside(0, 3, "shelf", 0, 1, Twins.V);
    }

    private static void promise39_aMissingRowIsNothing(Due due) {
        WoolMarket m = Due.told("buyer;");
        m.shelf(0, 0, 0);
        due.is("shelf", m.shelf(0, 1, 3), 1);
        due.is("taken for one", m.taken(0, 0), NOTHING);
        due.is("taken for a row", m.taken(0, 10), NOTHING);
    }

    private static void promise39_nCountsNothingForNothing(Due due) {
        for (int n : new int[] {-1, 9, Integer.MIN_VALUE, Integer.MAX_VALUE}) {
            WoolMarket m = Due.told("buyer;");
            m.shelf(0, 0, 0);
            due.is("shelf", m.shelf(0, 2, n), 1);
            due.is("taken", m.taken(0, 0), NOTHING);
        }
    }

    private static void promise39_nothingIsOneThatIsNotThereAtTheTime(Due due) {
        WoolMarket m = Due.told("buyer;buyer;");
        m.shelf(0, 0, 1);
        Due.read(m, "buyer;");
        due.is("taken", m.taken(0, 0), NOTHING);
        due.is("taken for a row", m.taken(0, 10), NOTHING);
        due.is("act", m.act(0, 0, 5), 0);
        m.person(4, 0, 0, 0);
        due.is("one bears the number again", m.taken(0, 4), 1);
    }

    private static void promise40_shelvesAre0To3(Due due) {
        WoolMarket m = Due.told("buyer;buyer;");
        m.shelf(0, 0, 1);
        m.shelf(3, 0, 0);
        due.is("the first", m.taken(0, 0), 1);
        due.is("the last", m.taken(3, 0), 0);
        new Twins(due).outside(0, 3, "taken", Twins.V, 0);
        new Twins(due).outside(0, 3, "taken", Twins.V, 10);
    }

    private static void promise40_asIs0To5And10To13(Due due) {
        WoolMarket m = Due.told("uncle;");
        m.shelf(0, 0, 0);
        due.is("the least KIND", m.taken(0, 0), 0);
        due.is("the most", m.taken(0, 5), 0);
        m.sheet(0, 0, 7);
        m.shelf(0, 1, 0);
        due.is("the least sort", m.taken(0, 10), 7);
        m.sheet(0, 3, 8);
        m.shelf(0, 1, 0);
        due.is("the most", m.taken(0, 13), 8);
        for (int shelf = 0; shelf <= 3; shelf++) {
            new Twins(due).outside(0, 5, "taken", shelf, Twins.V);
            new Twins(due).outside(10, 13, "taken", shelf, Twins.V);
        }
    }

    private static void promise40_nothingForAnyKindAndSort(Due due) {
        for (int as : new int[] {0, 5, 10, 13}) {
            new Twins(due).answer(NOTHING, "taken", 3, as);
        }
    }

    private static void promise40_badBeforeNothing(Due due) {
        new Twins(due).answer(-1, "taken", 3, 6);
        new Twins(due).answer(-1, "taken", 3, 14);
    }

    private static void promise40_onesOfThatKindOrUnderIt(Due due) {
        WoolMarket m = Due.told("buyer;wife;magistrate;knitter;clerk;uncle;");
        int[] above = {-1, 0, 0, 1, 2, 0};
        for (int kind = 0; kind <= 5; kind++) {
            m.shelf(0, 0, kind);
            for (int as = 0; as <= 5; as++) {
                boolean isUnder = as == kind || as == above[kind] || as == 0;
                due.is("one of " + kind + " as " + as, m.taken(0, as), isUnder ? kind : OTHER);
            }
            for (int as = 10; as <= 13; as++) {
                due.is("one of " + kind + " as " + as, m.taken(0, as), OTHER);
            }
        }
    }

    private static void promise40_rowsOfThatSortAlone(Due due) {
        WoolMarket m = new WoolMarket();
        for (int sort = 0; sort <= 3; sort++) {
            m.sheet(0, sort, 30 + sort);
            m.shelf(0, 1, 0);
            for (int as = 10; as <= 13; as++) {
                due.is("a row of " + sort + " as " + as, m.taken(0, as), as == 10 + sort ? 30 + sort : OTHER);
            }
            for (int as = 0; as <= 5; as++) {
                due.is("a row of " + sort + " as " + as, m.taken(0, as), OTHER);
            }
        }
    }

    private static void promise40_rowsOf0To40(Due due) {
        WoolMarket m = new WoolMarket();
        m.sheet(0, 2, 0);
        m.shelf(0, 1, 0);
        due.is("empty", m.taken(0, 12), 0);
        m.sheet(0, 2, 40);
        m.shelf(0, 1, 0);
        due.is("full", m.taken(0, 12), 40);
    }

    private static void promise40_aRowStaysWhenItsSheetBecomesAnother(Due due) {
        WoolMarket m = new WoolMarket();
        m.sheet(0, 2, 7);
        m.shelf(0, 1, 0);
        m.sheet(0, 0, 3);
        due.is("as it was put there", m.taken(0, 12), 7);
        m.sheet(0, -1, 0);
        due.is("as it was put there", m.taken(0, 12), 7);
    }

    /** What an act of 0 is: nothing runs and no TRACE is left, though there was one. */
    private static void noAct(Due due, int shelf, int act) {
        WoolMarket m = Twins.busy();
        String call = "act " + act + " of shelf " + shelf;
        due.is("bodies before " + call, m.many(6), 4);
        due.is(call, m.act(shelf, act, 7), 0);
        due.is("bodies behind " + call, m.many(6), 0);
        due.is("THE TRACE behind " + call, m.trace(0), -3);
        for (int i = 0; i < Twins.PEOPLE; i++) {
            due.is("coins as before " + call, m.of(i, 4), Twins.busy().of(i, 4));
        }
    }

    private static void promise41_shelvesAre0To3(Due due) {
        WoolMarket m = Due.told("buyer;buyer;");
        m.shelf(0, 0, 1);
        m.shelf(3, 0, 0);
        due.is("the first", m.act(0, 0, 5), 9);
        due.is("the last", m.act(3, 0, 5), 5);
        for (int shelf : new int[] {-1, 4, Integer.MIN_VALUE, Integer.MAX_VALUE}) {
            noAct(due, shelf, 0);
        }
    }

    private static void promise41_actsAre0To3(Due due) {
        WoolMarket m = Due.told("buyer truth 9;");
        m.shelf(0, 0, 0);
        due.is("the first", m.act(0, 0, 5), 5);
        due.is("the last", m.act(0, 3, 5), 6 ^ 24);
        for (int act : new int[] {-1, 4, Integer.MIN_VALUE, Integer.MAX_VALUE}) {
            noAct(due, 0, act);
        }
    }

    private static void promise41_nothingDoesNotAct(Due due) {
        noAct(due, 3, 0);
        noAct(due, 3, 3);
    }

    private static void promise41_aRowDoesNotAct(Due due) {
        noAct(due, 1, 0);
        noAct(due, 1, 3);
    }

    private static void promise41_oneWhoIsGoneDoesNotAct(Due due) {
        WoolMarket m = Due.told("buyer;buyer;");
        m.shelf(0, 0, 1);
        due.is("as one is there", m.act(0, 0, 5), 9);
        Due.read(m, "buyer;");
        due.is("as none is there", m.act(0, 0, 5), 0);
        due.is("no TRACE", m.many(6), 0);
    }

    /** An act of one of these people, by its number. */
    private static int act(String text, int person, int act, int x) {
        WoolMarket m = Due.told(text);
        m.shelf(2, 0, person);
        return m.act(2, act, x);
    }

    private static void promise41_seesWraps(Due due) {
        due.is("a buyer", act("buyer;buyer;", 1, 0, Integer.MAX_VALUE), Integer.MIN_VALUE + 3);
        due.is("a buyer, just not", act("buyer;buyer;", 1, 0, Integer.MAX_VALUE - 4), Integer.MAX_VALUE);
        due.is("a knitter", act("knitter truth 9;", 0, 0, Integer.MAX_VALUE), Integer.MIN_VALUE + 8);
        due.is("a clerk", act("clerk;", 0, 0, Integer.MIN_VALUE), Integer.MIN_VALUE + 1);
    }

    private static void promise41_paysWraps(Due due) {
        due.is("three times", act("buyer truth 9;", 0, 1, 1_000_000_000), (int) 3_000_000_000L - 9);
        due.is("the least", act("buyer;", 0, 1, Integer.MIN_VALUE), Integer.MIN_VALUE);
        due.is("less the truth", act("buyer truth 9;", 0, 1, Integer.MIN_VALUE), Integer.MAX_VALUE - 8);
        due.is("a wife", act("wife;", 0, 1, Integer.MIN_VALUE), Integer.MAX_VALUE - 5);
    }

    private static void promise41_partsWraps(Due due) {
        due.is("by 1 below 0", act("buyer;buyer;", 1, 2, Integer.MIN_VALUE), Integer.MIN_VALUE);
        due.is("a knitter's x less 1", act("knitter truth 1;", 0, 2, Integer.MIN_VALUE), -2);
        due.is("a knitter, twice", act("knitter truth 1;", 0, 2, Integer.MAX_VALUE), -4);
        due.is("an uncle", act("uncle truth 1;", 0, 2, Integer.MIN_VALUE), Integer.MIN_VALUE);
        due.is("an uncle, less what it sees", act("buyer;uncle truth 2;", 1, 2, Integer.MIN_VALUE), Integer.MAX_VALUE - 4);
    }

    private static void promise41_turnsWraps(Due due) {
        due.is("five times", act("uncle;", 0, 3, 500_000_000), (int) ((1_500_000_000L ^ 24) * 5));
        // It sees 6 more than the least, and parts its number by 1 below 0.
        due.is("a magistrate", act("buyer;magistrate;", 1, 3, Integer.MIN_VALUE), (((Integer.MIN_VALUE + 6) * 3) ^ 24) - 1);
    }

    private static void promise41_quotientsAreCutTowards0(Due due) {
        due.is("above 0", act("buyer truth 9;", 0, 2, 17), 1);
        due.is("below 0", act("buyer truth 9;", 0, 2, -17), -1);
        due.is("nearly 0", act("buyer truth 9;", 0, 2, -8), 0);
        due.is("by less than 0", act("buyer;buyer;buyer;", 2, 2, 5), -2);
        due.is("below 0 by less than 0", act("buyer;buyer;buyer;", 2, 2, -5), 2);
    }

    private static void promise41_partedBy0(Due due) {
        due.is("a buyer", act("buyer;", 0, 2, 9), PARTED_BY_0);
        due.is("a buyer with the last number", act("buyer truth 7;".repeat(8), 7, 2, 9), PARTED_BY_0);
        due.is("1 more", act("buyer truth 8;".repeat(8), 7, 2, 9), 9);
        due.is("1 less", act("buyer truth 6;".repeat(8), 7, 2, 9), -9);
        due.is("0 parted", act("buyer;", 0, 2, 0), PARTED_BY_0);
        due.is("a wife", act("wife;", 0, 2, 9), PARTED_BY_0);
        due.is("a knitter, not twice that", act("knitter;", 0, 2, 9), PARTED_BY_0);
        due.is("an uncle, not less what it sees", act("uncle;", 0, 2, 9), PARTED_BY_0);
        due.is("a magistrate turns, not more what it turned", act("magistrate;", 0, 3, 9), PARTED_BY_0);
        due.is("a clerk turns", act("clerk;", 0, 3, 9), PARTED_BY_0);
    }

    private static void promise41_whoDoesNotPartIsNotPartedBy0(Due due) {
        due.is("a buyer sees", act("buyer;", 0, 0, 9), 9);
        due.is("a buyer pays", act("buyer;", 0, 1, 9), 27);
        due.is("a buyer turns", act("buyer;", 0, 3, 9), 27 ^ 24);
        due.is("an uncle turns", act("uncle;", 0, 3, 9), (27 ^ 24) * 5);
    }

    private static void promise41_theNextActIsNotPartedBy0(Due due) {
        WoolMarket m = Due.told("buyer;");
        m.shelf(0, 0, 0);
        due.is("parts", m.act(0, 2, 9), PARTED_BY_0);
        due.is("sees", m.act(0, 0, 9), 9);
        due.is("no act", m.act(0, 4, 9), 0);
    }

    /** It isn't a refusal where it is what the act makes. */
    private static void promise41_anActMayAnswerBelow0(Due due) {
        due.is("sees", act("buyer;", 0, 0, -1), -1);
        WoolMarket m = Due.told("buyer;");
        m.shelf(0, 0, 0);
        due.is("15 below 0", m.act(0, 0, -15), -15);
        due.is("its TRACE", m.trace(0), 10);
    }

    private static void promise41_theFirstAndTheLastNumber(Due due) {
        due.is("0", act("buyer;".repeat(8), 0, 0, 5), 5);
        due.is("7", act("buyer;".repeat(8), 7, 0, 5), 33);
    }

    private static void promise42_noneAtFirst(Due due) {
        due.is("trace", new WoolMarket().trace(0), -3);
    }

    private static void promise42_iIs0ToBeforeHowManyRan(Due due) {
        WoolMarket m = Due.told("buyer truth 9;");
        m.shelf(0, 0, 0);
        m.act(0, 3, 5);
        due.is("the first", m.trace(0), 13);
        due.is("the last", m.trace(2), 10);
        Twins twins = new Twins(due);
        for (long i : new long[] {-1, 4, 29, 30, Integer.MIN_VALUE, Integer.MAX_VALUE}) {
            twins.answer(-3, "trace", i);
        }
        due.is("beyond", m.trace(3), -3);
    }

    /** 30 are kept; no act runs more than these. */
    private static void promise42_theLongestTrace(Due due) {
        WoolMarket m = Due.told("clerk truth 9;");
        m.shelf(0, 0, 0);
        m.act(0, 3, 5);
        int[] want = {31, 13, 41, 11, 40, 30, 10, 40, 30, 10, 12};
        for (int i = 0; i < want.length; i++) {
            due.is("body " + i, m.trace(i), want[i]);
        }
        due.is("beyond", m.trace(want.length), -3);
        due.is("how many", m.many(6), want.length);
    }

    private static void promise42_ofTheLatestActAlone(Due due) {
        WoolMarket m = Due.told("buyer truth 9;");
        m.shelf(0, 0, 0);
        m.act(0, 3, 5);
        m.act(0, 2, 5);
        due.is("the first", m.trace(0), 12);
        due.is("no second", m.trace(1), -3);
    }

    private static void promise42_thoseThatHadBegunBeforeAPartingBy0(Due due) {
        WoolMarket m = Due.told("buyer;wife truth 1;magistrate truth 2;knitter truth 3;clerk truth 4;uncle truth 5;");
        // What the uncle sees comes behind his parting, and isn't begun.
        int[][] want = {{0, 2, 12}, {1, 2, 12}, {2, 2, 12}, {2, 3, 31, 13, 11, 30, 10, 12}, {3, 2, 50, 12}, {4, 2, 12},
            {4, 3, 31, 13, 41, 11, 40, 30, 10, 40, 30, 10, 12}, {5, 2, 61, 12}};
        for (int[] w : want) {
            m.shelf(0, 0, w[0]);
            due.is("act", m.act(0, w[1], 9), PARTED_BY_0);
            due.is("how many", m.many(6), w.length - 2);
            for (int i = 2; i < w.length; i++) {
                due.is("body " + (i - 2), m.trace(i - 2), w[i]);
            }
            due.is("beyond", m.trace(w.length - 2), -3);
        }
    }
}
