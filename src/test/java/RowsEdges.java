/** Edges of promises 31 to 34: ROWS and THE READER. */
final class RowsEdges {
    private RowsEdges() {
    }

    /** Its web frays by 1 each DAY, and it pays 1. */
    private static WoolMarket payer() {
        return Due.told("buyer coins 70; buyer truth 1 web 8;");
    }

    private static void promise31_nIs1To10(Due due) {
        WoolMarket m = payer();
        due.is("one", m.prove(0, 1), 1);
        due.is("how many", m.many(4), 1);
        due.is("ten", m.prove(0, 10), 10);
        due.is("how many", m.many(4), 10);
        due.is("behind one DAY", m.row(0, 1), 69);
        due.is("behind ten", m.row(9, 1), 60);
        new Twins(due).outside(1, 10, "prove", 1, Twins.V);
    }

    private static void promise31_onlyOfThoseWhoAreThere(Due due) {
        WoolMarket m = Due.told("buyer;".repeat(8));
        due.is("the first", m.prove(0, 1), 1);
        due.is("the last of eight", m.prove(7, 2), 2);
        due.is("a ninth", m.prove(8, 1), -1);
        due.is("those there were", m.many(4), 2);
        new Twins(due).outside(0, Twins.PEOPLE - 1, "prove", Twins.V, 1);
    }

    private static void promise31_fewerRowsTakeThePlaceOfMore(Due due) {
        WoolMarket m = payer();
        m.prove(1, 10);
        m.prove(0, 2);
        due.is("how many", m.many(4), 2);
        due.is("the last", m.row(1, 1), 68);
        due.is("the next", m.row(2, 1), -9);
        due.is("all are right", m.judge(0), 0);
    }

    private static void promise31_nothingElseChanges(Due due) {
        WoolMarket asked = Twins.busy();
        WoolMarket other = Twins.busy();
        asked.prove(2, 7);
        asked.prove(1, 4);
        asked.alterRow(2, 1, -5);
        new Twins(due).areAlike("prove", asked, other);
    }

    private static void promise32_noRowsAtFirst(Due due) {
        due.is("row", new WoolMarket().row(0, 0), -9);
        due.is("row", payer().row(0, 2), -9);
    }

    /** Minus 9 where the call is refused: what is outside here isn't BAD. */
    private static void outside(Due due, int most, String name, long... arguments) {
        for (int v : new int[] {-1, most + 1, Integer.MIN_VALUE, Integer.MAX_VALUE}) {
            long[] withV = java.util.Arrays.stream(arguments).map(a -> a == Twins.V ? v : a).toArray();
            new Twins(due).answer(-9, name, withV);
        }
    }

    private static void promise32_iIs0ToBeforeHowManyThereAre(Due due) {
        WoolMarket m = payer();
        for (int n = 1; n <= 10; n++) {
            m.prove(0, n);
            due.is("the first of " + n, m.row(0, 1), 69);
            due.is("the last of " + n, m.row(n - 1, 1), 70 - n);
            due.is("beyond " + n, m.row(n, 1), -9);
        }
        outside(due, 3, "row", Twins.V, 0);
    }

    private static void promise32_whatIs0To2(Due due) {
        WoolMarket m = payer();
        m.prove(1, 8);
        int[] want = {0, 58, 3};
        for (int what = 0; what <= 2; what++) {
            due.is("row " + what, m.row(7, what), want[what]);
        }
        due.is("before", m.row(6, 2), 1);
        outside(due, 2, "row", 1, Twins.V);
    }

    private static void promise33_noRowsAtFirst(Due due) {
        due.is("alterRow", new WoolMarket().alterRow(0, 0, 1), -9);
    }

    private static void promise33_iIs0ToBeforeHowManyThereAre(Due due) {
        WoolMarket m = payer();
        for (int n = 1; n <= 10; n++) {
            m.prove(0, n);
            due.is("the last of " + n, m.alterRow(n - 1, 1, 5), 70 - n);
            due.is("the last of " + n + " then", m.row(n - 1, 1), 5);
            due.is("beyond " + n, m.alterRow(n, 1, 5), -9);
        }
        due.is("the first", m.alterRow(0, 1, 5), 69);
        outside(due, 3, "alterRow", Twins.V, 0, 1);
    }

    private static void promise33_whatIs0To2(Due due) {
        WoolMarket m = payer();
        m.prove(1, 8);
        int[] want = {0, 58, 3};
        for (int what = 0; what <= 2; what++) {
            due.is("alterRow " + what, m.alterRow(7, what, what + 100), want[what]);
        }
        for (int what = 0; what <= 2; what++) {
            due.is("row " + what, m.row(7, what), what + 100);
        }
        outside(due, 2, "alterRow", 1, Twins.V, 1);
    }

    private static void promise33_vIsAnyInt(Due due) {
        WoolMarket m = payer();
        m.prove(0, 1);
        m.alterRow(0, 0, Integer.MIN_VALUE);
        due.is("the least", m.row(0, 0), Integer.MIN_VALUE);
        due.is("it was the least", m.alterRow(0, 0, Integer.MAX_VALUE), Integer.MIN_VALUE);
        due.is("the most", m.row(0, 0), Integer.MAX_VALUE);
    }

    private static void promise34_withoutRowsAllIsRight(Due due) {
        due.is("none yet", payer().judge(0), 0);
        WoolMarket m = payer();
        m.prove(0, 5);
        m.alterRow(0, 0, 77);
        Due.read(m, "buyer;");
        due.is("none any more", m.judge(0), 0);
    }

    private static void promise34_theFirstToTheTenth(Due due) {
        WoolMarket m = payer();
        m.prove(0, 10);
        due.is("all is right", m.judge(0), 0);
        for (int i = 9; i >= 0; i--) {
            m.alterRow(i, i % 3, 5000);
            due.is("ROW " + i + " is the first that isn't", m.judge(0), i + 1);
        }
    }

    private static void promise34_eachPartOfARow(Due due) {
        WoolMarket m = payer();
        m.prove(1, 8);
        for (int what = 0; what <= 2; what++) {
            int was = m.alterRow(3, what, m.row(3, what) + 1);
            due.is("1 more, " + what, m.judge(1), 4);
            m.alterRow(3, what, was - 1);
            due.is("1 less, " + what, m.judge(1), 4);
            m.alterRow(3, what, was);
            due.is("right again, " + what, m.judge(1), 0);
        }
    }

    private static void promise34_onlyOfThoseWhoAreThere(Due due) {
        WoolMarket m = Due.told("buyer;".repeat(8));
        m.prove(7, 3);
        due.is("the first", m.judge(0), 0);
        due.is("the last of eight", m.judge(7), 0);
        due.is("a ninth", m.judge(8), -1);
        new Twins(due).outside(0, Twins.PEOPLE - 1, "judge", Twins.V);
        due.is("nobody, and no ROWS", new WoolMarket().judge(0), -1);
    }

    private static void promise34_fromHowItIsNow(Due due) {
        WoolMarket m = payer();
        m.prove(0, 3);
        m.days(1);
        due.is("a DAY later", m.judge(0), 1);
    }

    private static void promise34_nothingChanges(Due due) {
        new Twins(due).answer(1, "judge", 0);
        new Twins(due).answer(3, "judge", 1);
    }
}
