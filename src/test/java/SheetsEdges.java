/** Edges of promises 35 to 38: SHEETS, and webs taken from them. */
final class SheetsEdges {
    private static final int MISSING = -11, OUTSIDE = -12, OTHER_SORT = -13;

    private SheetsEdges() {
    }

    /** Eight buyers with webs of 50, and these bytes on SHEET 0. */
    private static WoolMarket withBytes(int... bytes) {
        WoolMarket m = Due.told("buyer web 50;".repeat(8));
        m.sheet(0, 0, bytes.length);
        for (int i = 0; i < bytes.length; i++) {
            m.put(0, i, bytes[i]);
        }
        return m;
    }

    private static void promise35_nIs0To8(Due due) {
        WoolMarket m = withBytes(1, 2, 3, 4, 5, 6, 7, 8, 9);
        due.is("none", m.minds(0, 0, 0, 0), 0);
        due.is("the first as it was", m.of(0, 3), 50);
        due.is("eight", m.minds(0, 1, 0, 8), 8);
        due.is("the first", m.of(0, 3), 2);
        due.is("the last", m.of(7, 3), 9);
        due.is("nine", m.minds(0, 0, 0, 9), -1);
        new Twins(due).outside(0, Twins.PEOPLE - 1, "minds", 0, 0, 1, Twins.V);
    }

    private static void promise35_notBeyondTheLastOne(Due due) {
        WoolMarket m = withBytes(1, 2, 3, 4);
        due.is("just to the last", m.minds(0, 0, 5, 3), 3);
        due.is("the one before", m.of(4, 3), 50);
        due.is("the last", m.of(7, 3), 3);
        due.is("one beyond", m.minds(0, 0, 5, 4), -1);
        new Twins(due).answer(-1, "minds", 0, 0, 2, Twins.PEOPLE - 1);
    }

    private static void promise35_onlyThoseWhoAreThere(Due due) {
        WoolMarket m = withBytes(7);
        due.is("the first", m.minds(0, 0, 0, 1), 1);
        due.is("the last of eight", m.minds(0, 0, 7, 1), 1);
        due.is("a ninth, none", m.minds(0, 0, 8, 0), -1);
        new Twins(due).outside(0, Twins.PEOPLE - 1, "minds", 0, 0, Twins.V, 0);
    }

    private static void promise35_sheetsAre0To3(Due due) {
        WoolMarket m = withBytes(7);
        m.sheet(3, 0, 1);
        due.is("the last", m.minds(3, 0, 0, 1), 1);
        due.is("its item", m.of(0, 3), 0);
        due.is("the first", m.minds(0, 0, 0, 1), 1);
        due.is("its item", m.of(0, 3), 7);
        new Twins(due).outside(0, 3, "minds", Twins.V, 0, 1, 1);
    }

    private static void promise35_websAreHeldTo0To99(Due due) {
        WoolMarket m = withBytes(0, -1, -128, 98, 99, 100, 127, 1);
        m.minds(0, 0, 0, 8);
        int[] want = {0, 0, 0, 98, 99, 99, 99, 1};
        for (int i = 0; i < want.length; i++) {
            due.is("web of " + i, m.of(i, 3), want[i]);
        }
    }

    private static void promise35_aMissingSheet(Due due) {
        new Twins(due).answer(MISSING, "minds", 3, 0, 1, 1);
        new Twins(due).answer(MISSING, "minds", 3, 0, 1, 0);
    }

    private static void promise35_bytesAlone(Due due) {
        for (int sort = 1; sort <= 3; sort++) {
            int other = sort;
            new Twins(due, m -> m.sheet(0, other, 5)).answer(OTHER_SORT, "minds", 0, 0, 1, 1);
            new Twins(due, m -> m.sheet(0, other, 0)).answer(OTHER_SORT, "minds", 0, 0, 1, 0);
        }
    }

    private static void promise35_iIs0ToHowManyItemsThereAre(Due due) {
        WoolMarket m = withBytes(1, 2, 3);
        due.is("the end, none", m.minds(0, 3, 0, 0), 0);
        due.is("the last item", m.minds(0, 2, 0, 1), 1);
        due.is("an empty row", withBytes().minds(0, 0, 0, 0), 0);
        Twins twins = new Twins(due);
        for (long i : new long[] {-1, 6, Integer.MIN_VALUE, Integer.MAX_VALUE}) {
            twins.answer(OUTSIDE, "minds", 0, i, 1, 0);
            twins.answer(OUTSIDE, "minds", 0, i, 1, 1);
        }
        due.is("beyond an empty row", withBytes().minds(0, 1, 0, 0), OUTSIDE);
    }

    private static void promise35_soManyItemsAsAreAsked(Due due) {
        WoolMarket m = withBytes(1, 2, 3);
        due.is("all", m.minds(0, 0, 0, 3), 3);
        due.is("just to the end", m.minds(0, 1, 0, 2), 2);
        Twins twins = new Twins(due);
        twins.answer(OUTSIDE, "minds", 0, 5, 1, 1);
        twins.answer(OUTSIDE, "minds", 0, 2, 1, 4);
        twins.answer(OUTSIDE, "minds", 0, Integer.MAX_VALUE, 0, 5);
    }

    private static void promise35_theFirstNamedFirst(Due due) {
        Twins twins = new Twins(due);
        twins.answer(-1, "minds", 3, 9, 1, 9);
        twins.answer(-1, "minds", 3, 9, 1, -1);
        twins.answer(-1, "minds", 1, 9, 5, 0);
        twins.answer(-1, "minds", 0, 9, 0, 6);
        twins.answer(MISSING, "minds", 3, 9, 1, 1);
        twins.answer(OTHER_SORT, "minds", 1, 9, 1, 1);
    }

    private static void promise36_sheetsAre0To3(Due due) {
        WoolMarket m = new WoolMarket();
        due.is("the first", m.sheet(0, 0, 1), 1);
        due.is("the last", m.sheet(3, 0, 1), 1);
        new Twins(due).outside(0, 3, "sheet", Twins.V, 0, 1);
    }

    private static void promise36_sortsAre0To3AndMissing(Due due) {
        WoolMarket m = new WoolMarket();
        for (int sort = 0; sort <= 3; sort++) {
            due.is("sort " + sort, m.sheet(0, sort, 2), 1);
            due.is("an item of it", m.item(0, sort, 1), 0);
        }
        due.is("missing", m.sheet(0, -1, 2), 1);
        due.is("it is", m.item(0, 3, 1), MISSING);
        new Twins(due).outside(-1, 3, "sheet", 0, Twins.V, 1);
    }

    private static void promise36_nIs0To40(Due due) {
        WoolMarket m = new WoolMarket();
        for (int sort = 0; sort <= 3; sort++) {
            due.is("none", m.sheet(0, sort, 0), 1);
            due.is("no item", m.item(0, sort, 0), OUTSIDE);
            due.is("forty", m.sheet(0, sort, 40), 1);
            due.is("the last item", m.item(0, sort, 39), 0);
            due.is("no further one", m.item(0, sort, 40), OUTSIDE);
        }
    }

    private static void promise36_above40IsBad(Due due) {
        for (int sort = 0; sort <= 3; sort++) {
            new Twins(due).answer(-1, "sheet", 0, sort, 41);
            new Twins(due).answer(-1, "sheet", 0, sort, Integer.MAX_VALUE);
        }
    }

    private static void promise36_below0IsASizeBelow0(Due due) {
        for (int sort = 0; sort <= 3; sort++) {
            new Twins(due).answer(-14, "sheet", 0, sort, -1);
            new Twins(due).answer(-14, "sheet", 0, sort, Integer.MIN_VALUE);
        }
    }

    private static void promise36_badBeforeASizeBelow0(Due due) {
        Twins twins = new Twins(due);
        twins.answer(-1, "sheet", 4, 0, -1);
        twins.answer(-1, "sheet", 0, 4, -1);
        twins.answer(-1, "sheet", 0, -2, -1);
    }

    private static void promise36_nCountsNothingForAMissingOne(Due due) {
        for (int n : new int[] {-1, 0, 41, Integer.MIN_VALUE, Integer.MAX_VALUE}) {
            WoolMarket m = new WoolMarket();
            m.sheet(2, 1, 3);
            due.is("missing, n " + n, m.sheet(2, -1, n), 1);
            due.is("it is", m.item(2, 1, 0), MISSING);
        }
    }

    private static void promise36_allItemsAre0(Due due) {
        WoolMarket m = new WoolMarket();
        for (int round = 0; round < 2; round++) {
            m.sheet(0, 2, 40);
            for (int i = 0; i < 40; i++) {
                due.is("item " + i, m.item(0, 2, i), 0);
                m.put(0, i, i + 1);
            }
        }
        m.sheet(0, 2, 1);
        m.sheet(0, 2, 40);
        due.is("the last, behind a short row", m.item(0, 2, 39), 0);
    }

    /** What is put and what the item of a sort becomes. */
    private static void puts(Due due, int sort, int[][] wants) {
        WoolMarket m = new WoolMarket();
        m.sheet(0, sort, 1);
        for (int[] want : wants) {
            due.is("put " + want[0], m.put(0, 0, want[0]), 1);
            due.is("item " + want[0], m.item(0, sort, 0), want[1]);
        }
    }

    private static void promise37_bytesWrap(Due due) {
        puts(due, 0, new int[][] {{127, 127}, {128, -128}, {-128, -128}, {-129, 127}, {255, -1}, {256, 0}, {-1, -1},
            {Integer.MAX_VALUE, -1}, {Integer.MIN_VALUE, 0}});
    }

    private static void promise37_shortsWrap(Due due) {
        puts(due, 1, new int[][] {{32767, 32767}, {32768, -32768}, {-32768, -32768}, {-32769, 32767}, {65535, -1}, {65536, 0},
            {Integer.MAX_VALUE, -1}, {Integer.MIN_VALUE, 0}});
    }

    private static void promise37_intsAndLongsHoldAnyInt(Due due) {
        for (int sort = 2; sort <= 3; sort++) {
            puts(due, sort, new int[][] {{Integer.MAX_VALUE, Integer.MAX_VALUE}, {Integer.MIN_VALUE, Integer.MIN_VALUE},
                {-1, -1}, {65536, 65536}, {0, 0}});
        }
    }

    private static void promise37_sheetsAre0To3(Due due) {
        WoolMarket m = new WoolMarket();
        m.sheet(0, 0, 1);
        m.sheet(3, 0, 1);
        due.is("the first", m.put(0, 0, 5), 1);
        due.is("the last", m.put(3, 0, 6), 1);
        due.is("the first then", m.item(0, 0, 0), 5);
        due.is("the last then", m.item(3, 0, 0), 6);
        new Twins(due).outside(0, 3, "put", Twins.V, 0, 1);
    }

    private static void promise37_aMissingSheet(Due due) {
        new Twins(due).answer(MISSING, "put", 3, 0, 1);
    }

    private static void promise37_aPlaceOutside(Due due) {
        WoolMarket m = new WoolMarket();
        m.sheet(0, 1, 40);
        due.is("the first", m.put(0, 0, 5), 1);
        due.is("the last", m.put(0, 39, 6), 1);
        due.is("the last then", m.item(0, 1, 39), 6);
        due.is("beyond forty", m.put(0, 40, 6), OUTSIDE);
        for (long i : new long[] {-1, 5, Integer.MIN_VALUE, Integer.MAX_VALUE}) {
            new Twins(due).answer(OUTSIDE, "put", 0, i, 1);
        }
    }

    private static void promise37_anEmptyRowHasNoPlace(Due due) {
        new Twins(due, m -> m.sheet(0, 2, 0)).answer(OUTSIDE, "put", 0, 0, 1);
    }

    private static void promise37_theFirstNamedFirst(Due due) {
        new Twins(due).answer(-1, "put", 4, -1, 1);
        new Twins(due).answer(MISSING, "put", 3, -1, 1);
    }

    private static void promise38_sheetsAre0To3(Due due) {
        WoolMarket m = new WoolMarket();
        m.sheet(0, 1, 1);
        m.sheet(3, 1, 1);
        m.put(0, 0, 5);
        m.put(3, 0, 6);
        due.is("the first", m.item(0, 1, 0), 5);
        due.is("the last", m.item(3, 1, 0), 6);
        new Twins(due).outside(0, 3, "item", Twins.V, 0, 0);
    }

    private static void promise38_sortsAre0To3(Due due) {
        for (int sort = 0; sort <= 3; sort++) {
            puts(due, sort, new int[][] {{77, 77}});
        }
        new Twins(due).outside(0, 3, "item", 0, Twins.V, 0);
    }

    private static void promise38_aMissingSheet(Due due) {
        for (int sort = 0; sort <= 3; sort++) {
            new Twins(due).answer(MISSING, "item", 3, sort, 0);
        }
    }

    private static void promise38_anotherSort(Due due) {
        for (int sort = 0; sort <= 3; sort++) {
            int own = sort;
            Twins twins = new Twins(due, m -> m.sheet(0, own, 3));
            for (int as = 0; as <= 3; as++) {
                twins.answer(as == sort ? 0 : OTHER_SORT, "item", 0, as, 0);
            }
        }
    }

    private static void promise38_aPlaceOutside(Due due) {
        WoolMarket m = new WoolMarket();
        m.sheet(0, 1, 40);
        m.put(0, 0, 5);
        m.put(0, 39, 6);
        due.is("the first", m.item(0, 1, 0), 5);
        due.is("the last", m.item(0, 1, 39), 6);
        due.is("beyond forty", m.item(0, 1, 40), OUTSIDE);
        for (long i : new long[] {-1, 5, Integer.MIN_VALUE, Integer.MAX_VALUE}) {
            new Twins(due).answer(OUTSIDE, "item", 0, 0, i);
        }
    }

    private static void promise38_anEmptyRowHasNoPlace(Due due) {
        new Twins(due, m -> m.sheet(0, 2, 0)).answer(OUTSIDE, "item", 0, 2, 0);
    }

    private static void promise38_theFirstNamedFirst(Due due) {
        Twins twins = new Twins(due);
        twins.answer(-1, "item", 4, 0, 9);
        twins.answer(-1, "item", 3, 4, 9);
        twins.answer(MISSING, "item", 3, 0, 9);
        twins.answer(OTHER_SORT, "item", 0, 1, 9);
    }

    private static void promise38_anItemMayBeAsLowAsARefusal(Due due) {
        for (int sort = 0; sort <= 3; sort++) {
            puts(due, sort, new int[][] {{-1, -1}, {OTHER_SORT, OTHER_SORT}, {OUTSIDE, OUTSIDE}, {MISSING, MISSING}});
        }
    }
}
