/** Edges of promises 1 and 4 to 12: a new object, laws, and people as they are now. */
final class PeopleEdges {
    private static final int BUYER = 0, WIFE = 1, MAGISTRATE = 2, KNITTER = 3, CLERK = 4, UNCLE = 5;

    private PeopleEdges() {
    }

    private static void promise1_nobodyAtFirst(Due due) {
        WoolMarket m = new WoolMarket();
        for (int what = 0; what <= 3; what++) {
            due.is("many " + what, m.many(what), 0);
        }
        for (int what = 2; what <= 5; what++) {
            due.is("state " + what, m.state(what), 0);
        }
        due.is("of", m.of(0, 0), -1);
    }

    private static void promise1_nothingIsKept(Due due) {
        due.is("again", new WoolMarket().again(), -3);
    }

    private static void promise1_dayAndChestAre0AtFirst(Due due) {
        WoolMarket m = new WoolMarket();
        due.is("DAY", m.state(0), 0);
        due.is("CHEST", m.state(1), 0);
    }

    private static void promise1_zIs1AtFirst(Due due) {
        due.is("z", new WoolMarket().seed(9), 1);
    }

    private static void promise1_theTapeIsEmpty(Due due) {
        WoolMarket m = new WoolMarket();
        due.is("bytes", m.many(5), 0);
        due.is("market", m.market(), 0);
    }

    private static void promise1_thereAreNoRows(Due due) {
        WoolMarket m = new WoolMarket();
        due.is("many", m.many(4), 0);
        due.is("row", m.row(0, 0), -9);
        m.person(0, 0, 0, 0);
        due.is("judge", m.judge(0), 0);
    }

    private static void promise1_thereIsNoTrace(Due due) {
        WoolMarket m = new WoolMarket();
        due.is("many", m.many(6), 0);
        due.is("trace", m.trace(0), -3);
    }

    private static void promise1_sheetsAreMissing(Due due) {
        WoolMarket m = new WoolMarket();
        for (int sheet = 0; sheet < 4; sheet++) {
            due.is("put", m.put(sheet, 0, 0), -11);
            for (int sort = 0; sort < 4; sort++) {
                due.is("item", m.item(sheet, sort, 0), -11);
            }
        }
    }

    private static void promise1_shelvesHoldNothing(Due due) {
        WoolMarket m = Due.told("buyer truth 9;");
        for (int shelf = 0; shelf < 4; shelf++) {
            due.is("taken", m.taken(shelf, 0), -11);
            due.is("taken for a row", m.taken(shelf, 10), -11);
            due.is("act", m.act(shelf, 0, 5), 0);
        }
    }

    private static void promise1_theLastOf512CallsAnswersToo(Due due) {
        WoolMarket m = new WoolMarket();
        for (int call = 1; call < 512; call++) {
            m.seed(call);
        }
        due.is("the last", m.seed(0), 511);
    }

    private static void lawIsUpTo(Due due, int law, int most) {
        WoolMarket m = new WoolMarket();
        m.set(law, most / 2);
        due.is("to the least", m.set(law, 0), most / 2);
        due.is("the least", m.lawOf(law), 0);
        due.is("to the most", m.set(law, most), 0);
        due.is("the most", m.lawOf(law), most);
        new Twins(due).outside(0, most, "set", law, Twins.V);
    }

    private static void promise4_weftIs0To9(Due due) {
        lawIsUpTo(due, 0, 9);
    }

    private static void promise4_frayIs0To9(Due due) {
        lawIsUpTo(due, 1, 9);
    }

    private static void promise4_tollIs0To9(Due due) {
        lawIsUpTo(due, 2, 9);
    }

    private static void promise4_slipIs0To99(Due due) {
        lawIsUpTo(due, 3, 99);
    }

    private static void promise4_lawsAreNumbered0To3(Due due) {
        WoolMarket m = new WoolMarket();
        due.is("the first", m.set(0, 5), 2);
        due.is("the last", m.set(3, 5), 20);
        new Twins(due).outside(0, 3, "set", Twins.V, 1);
    }

    private static void promise5_weftIs2AtFirst(Due due) {
        due.is("WEFT", new WoolMarket().lawOf(0), 2);
    }

    private static void promise5_frayIs1AtFirst(Due due) {
        due.is("FRAY", new WoolMarket().lawOf(1), 1);
    }

    private static void promise5_tollIs0AtFirst(Due due) {
        due.is("TOLL", new WoolMarket().lawOf(2), 0);
    }

    private static void promise5_slipIs20AtFirst(Due due) {
        due.is("SLIP", new WoolMarket().lawOf(3), 20);
    }

    private static void promise5_lawsAreNumbered0To3(Due due) {
        WoolMarket m = new WoolMarket();
        m.set(0, 7);
        m.set(3, 8);
        due.is("the first", m.lawOf(0), 7);
        due.is("the last", m.lawOf(3), 8);
        new Twins(due).outside(0, 3, "lawOf", Twins.V);
    }

    private static void promise6_kindIs0To5(Due due) {
        WoolMarket m = new WoolMarket();
        m.person(0, 1, 1, 1);
        m.person(5, 1, 1, 1);
        due.is("the least", m.of(0, 0), 0);
        due.is("the most", m.of(1, 0), 5);
        new Twins(due).outside(0, 5, "person", Twins.V, 1, 1, 1);
    }

    private static void promise6_truthIs0To99(Due due) {
        WoolMarket m = new WoolMarket();
        m.person(0, 0, 1, 1);
        m.person(0, 99, 1, 1);
        due.is("the least", m.of(0, 1), 0);
        due.is("the most", m.of(1, 1), 99);
        new Twins(due).outside(0, 99, "person", 0, Twins.V, 1, 1);
    }

    private static void promise6_wishIs0To99(Due due) {
        WoolMarket m = new WoolMarket();
        m.person(0, 1, 0, 1);
        m.person(0, 1, 99, 1);
        due.is("the least", m.of(0, 2), 0);
        due.is("the most", m.of(1, 2), 99);
        new Twins(due).outside(0, 99, "person", 0, 1, Twins.V, 1);
    }

    private static void promise6_webIs0To99(Due due) {
        WoolMarket m = new WoolMarket();
        m.person(0, 1, 1, 0);
        m.person(0, 1, 1, 99);
        due.is("the least", m.of(0, 3), 0);
        due.is("the most", m.of(1, 3), 99);
        new Twins(due).outside(0, 99, "person", 0, 1, 1, Twins.V);
    }

    private static void promise6_numberedAsTheyComeWith50Coins(Due due) {
        WoolMarket m = new WoolMarket();
        for (int i = 0; i < 8; i++) {
            due.is("number", m.person(i % 6, i, 0, 0), i);
            due.is("who it is", m.of(i, 1), i);
            due.is("coins", m.of(i, 4), 50);
        }
    }

    private static void fill(WoolMarket m) {
        for (int i = m.many(0); i < 8; i++) {
            m.person(0, 20 + i, 0, 9);
        }
    }

    private static void promise6_fullBehindEight(Due due) {
        WoolMarket m = new WoolMarket();
        fill(m);
        due.is("eight", m.many(0), 8);
        due.is("a ninth", m.person(0, 0, 0, 0), -2);
        new Twins(due, PeopleEdges::fill).answer(-2, "person", 1, 2, 3, 4);
    }

    private static void promise6_badBeforeFull(Due due) {
        Twins full = new Twins(due, PeopleEdges::fill);
        full.answer(-1, "person", 6, 2, 3, 4);
        full.answer(-1, "person", 1, 100, 3, 4);
        full.answer(-1, "person", 1, 2, 100, 4);
        full.answer(-1, "person", 1, 2, 3, -1);
    }

    private static void promise7_onlyOfThoseWhoAreThere(Due due) {
        WoolMarket m = new WoolMarket();
        fill(m);
        due.is("the first", m.of(0, 1), 20);
        due.is("the last of eight", m.of(7, 1), 27);
        due.is("a ninth", m.of(8, 1), -1);
        new Twins(due).outside(0, Twins.PEOPLE - 1, "of", Twins.V, 1);
    }

    private static void promise7_whatIs0To5(Due due) {
        WoolMarket m = Due.told("uncle truth 1 wish 2 web 3 coins 4;");
        due.is("KIND", m.of(0, 0), 5);
        due.is("ON THE STEPS", m.of(0, 5), 0);
        new Twins(due).outside(0, 5, "of", 0, Twins.V);
    }

    private static void promise7_onTheStepsIfTheWebIs0(Due due) {
        WoolMarket m = Due.told("buyer web 0; buyer web 1; buyer web 99; knitter web 0; uncle web 1;");
        int[] want = {1, 0, 0, 1, 0};
        for (int i = 0; i < want.length; i++) {
            due.is("one " + i, m.of(i, 5), want[i]);
        }
    }

    /** What one of a KIND wears with these webs, in this order. */
    private static void wears(Due due, int kind, int[] webs, int[] want) {
        WoolMarket m = new WoolMarket();
        m.person(kind, 50, 0, 0);
        for (int i = 0; i < webs.length; i++) {
            m.change(0, 3, webs[i]);
            due.is("with a web of " + webs[i], m.does(0, 0), 1000 + want[i]);
        }
    }

    private static void promise8_aBuyerWearsItsWeb(Due due) {
        wears(due, BUYER, new int[] {0, 1, 98, 99}, new int[] {0, 1, 98, 99});
    }

    private static void promise8_aWifeWearsAHalfCut(Due due) {
        wears(due, WIFE, new int[] {0, 1, 2, 3, 98, 99}, new int[] {0, 0, 1, 1, 49, 49});
    }

    private static void promise8_aMagistrateWearsAQuarterCut(Due due) {
        wears(due, MAGISTRATE, new int[] {0, 3, 4, 7, 8, 95, 96, 99}, new int[] {0, 0, 1, 1, 2, 23, 24, 24});
    }

    private static void promise8_anUncleWears0(Due due) {
        wears(due, UNCLE, new int[] {0, 1, 99}, new int[] {0, 0, 0});
    }

    private static void promise8_aClerkWearsATenthOfItsWishCut(Due due) {
        WoolMarket m = Due.told("clerk web 99;");
        int[] wishes = {0, 9, 10, 19, 90, 99};
        int[] want = {24, 24, 25, 25, 33, 33};
        for (int i = 0; i < wishes.length; i++) {
            m.mind(0, CLERK, wishes[i]);
            due.is("with a wish of " + wishes[i], m.does(0, 0), 1000 + want[i]);
        }
        m.change(0, 3, 3);
        due.is("each is cut by itself", m.does(0, 0), 1009);
    }

    /** 99 at most: with the thickest web and the most WEFT it is 58. */
    private static void promise8_aKnitterWearsWeftMore99AtMost(Due due) {
        WoolMarket m = Due.told("knitter web 99; knitter; weft 9;");
        due.is("the most", m.does(0, 0), 1058);
        due.is("without a web", m.does(1, 0), 1009);
        m.set(0, 0);
        due.is("without WEFT", m.does(0, 0), 1049);
        due.is("without both", m.does(1, 0), 1000);
    }

    /** What one of a KIND frays with FRAY 0, 1, 2 and 9, and WEFT 9. */
    private static void frays(Due due, int kind, int... want) {
        WoolMarket m = Due.told("weft 9;");
        m.person(kind, 0, 99, 99);
        int[] frays = {0, 1, 2, 9};
        for (int i = 0; i < frays.length; i++) {
            m.set(1, frays[i]);
            due.is("with FRAY " + frays[i], m.does(0, 1), want[i]);
        }
    }

    private static void promise8_aBuyerFraysFray(Due due) {
        frays(due, BUYER, 1000, 1001, 1002, 1009);
    }

    private static void promise8_aWifesFrayMayBeBelow0(Due due) {
        frays(due, WIFE, 998, 999, 1000, 1007);
    }

    private static void promise8_aKnittersFrayMayBeBelow0(Due due) {
        frays(due, KNITTER, 989, 990, 991, 998);
    }

    private static void promise8_aMagistrateFraysTwice(Due due) {
        frays(due, MAGISTRATE, 1000, 1002, 1004, 1018);
    }

    private static void promise8_anUncleFrays9More(Due due) {
        frays(due, UNCLE, 1009, 1010, 1011, 1018);
    }

    private static void promise8_aClerkFraysInEvenDaysElse0(Due due) {
        frays(due, CLERK, 1000, 1002, 1004, 1018);
        WoolMarket m = Due.told("clerk web 99; fray 9;");
        for (int day = 0; day < 4; day++) {
            due.is("DAY " + day, m.does(0, 1), day % 2 == 0 ? 1018 : 1000);
            m.days(1);
        }
    }

    private static void promise8_onlyOfThoseWhoAreThere(Due due) {
        WoolMarket m = new WoolMarket();
        fill(m);
        m.change(7, 3, 77);
        due.is("the first", m.does(0, 0), 1009);
        due.is("the last of eight", m.does(7, 0), 1077);
        due.is("a ninth", m.does(8, 0), -1);
        new Twins(due).outside(0, Twins.PEOPLE - 1, "does", Twins.V, 0);
    }

    private static void promise8_whatIs0And1(Due due) {
        WoolMarket m = Due.told("buyer web 33; fray 4;");
        due.is("WEARS", m.does(0, 0), 1033);
        due.is("FRAYS", m.does(0, 1), 1004);
        new Twins(due).outside(0, 1, "does", 0, Twins.V);
    }

    private static void promise9_whoWears0SeesTruthAlone(Due due) {
        WoolMarket m = Due.told("buyer wish 99 web 0; buyer truth 0; buyer truth 99;");
        due.is("the least", m.looks(0, 1, 0), 1000);
        due.is("the most", m.looks(0, 2, 0), 1099);
    }

    private static void promise9_whoWears99SeesItsWishAlone(Due due) {
        WoolMarket m = Due.told("buyer wish 0 web 99; buyer truth 50 wish 99 web 99;");
        due.is("the least", m.looks(0, 1, 0), 1000);
        due.is("the most", m.looks(1, 0, 0), 1099);
    }

    /** Through a web of 1: 98 by 99, 99 by 99, and 99 times 98 and 98 by 99. */
    private static void promise9_whatOneSeesIsCut(Due due) {
        WoolMarket m = Due.told("buyer wish 0 web 1; buyer wish 1 web 1; buyer wish 98 web 1; buyer truth 1; buyer truth 99;");
        due.is("just less than 1", m.looks(0, 3, 0), 1000);
        due.is("just 1", m.looks(1, 3, 0), 1001);
        due.is("just less than 99", m.looks(2, 4, 0), 1098);
    }

    /** What one of a KIND offers where it sees 0, 1, 9, 10, 11 and 99. */
    private static void offers(Due due, int kind, int... want) {
        WoolMarket m = Due.told("buyer;");
        m.person(kind, 0, 0, 0);
        int[] truths = {0, 1, 9, 10, 11, 99};
        for (int i = 0; i < truths.length; i++) {
            m.change(0, 1, truths[i]);
            due.is("where it sees " + truths[i], m.looks(1, 0, 1), 1000 + want[i]);
        }
    }

    private static void promise9_aBuyerOffersWhatItSees(Due due) {
        offers(due, BUYER, 0, 1, 9, 10, 11, 99);
    }

    private static void promise9_aMagistrateOffers5More(Due due) {
        offers(due, MAGISTRATE, 5, 6, 14, 15, 16, 104);
    }

    private static void promise9_aClerkOffersAHalfOfThatCut(Due due) {
        offers(due, CLERK, 2, 3, 7, 7, 8, 52);
    }

    private static void promise9_anUnclesOfferMayBeBelow0(Due due) {
        offers(due, UNCLE, -10, -9, -1, 0, 1, 89);
    }

    private static void promise9_aWifesOfferMayBeBelow0(Due due) {
        WoolMarket m = Due.told("wife; buyer truth 0; buyer truth 8; buyer truth 9; buyer truth 99; weft 9;");
        int[] want = {-9, -1, 0, 90};
        for (int i = 0; i < want.length; i++) {
            due.is("to " + (i + 1), m.looks(0, i + 1, 1), 1000 + want[i]);
        }
    }

    /** It wears WEFT: of 0 it sees 0, of 11 it sees 10, of 99 it sees 90. */
    private static void promise9_aKnittersOfferMayBeBelow0(Due due) {
        WoolMarket m = Due.told("knitter; buyer truth 0; buyer truth 9; buyer truth 11; buyer truth 99; weft 9;");
        int[] want = {-18, -2, 2, 162};
        for (int i = 0; i < want.length; i++) {
            due.is("to " + (i + 1), m.looks(0, i + 1, 1), 1000 + want[i]);
        }
    }

    private static void promise9_notOneAndTheSame(Due due) {
        Twins twins = new Twins(due);
        twins.answer(-1, "looks", 0, 0, 0);
        twins.answer(-1, "looks", 4, 4, 1);
    }

    private static void promise9_onlyThoseWhoAreThere(Due due) {
        WoolMarket m = new WoolMarket();
        fill(m);
        due.is("the last of the first", m.looks(0, 7, 1) > 1000 ? 1 : 0, 1);
        due.is("the first of the last", m.looks(7, 0, 1) > 1000 ? 1 : 0, 1);
        new Twins(due).outside(0, Twins.PEOPLE - 1, "looks", Twins.V, 2, 0);
        new Twins(due).outside(0, Twins.PEOPLE - 1, "looks", 2, Twins.V, 0);
    }

    private static void promise9_whatIs0And1(Due due) {
        WoolMarket m = Due.told("uncle; buyer truth 33;");
        due.is("SEES", m.looks(0, 1, 0), 1033);
        due.is("OFFERS", m.looks(0, 1, 1), 1023);
        new Twins(due).outside(0, 1, "looks", 0, 1, Twins.V);
    }

    private static void promise10_kindIs0To5(Due due) {
        WoolMarket m = Due.told("magistrate wish 7;");
        due.is("to the most", m.mind(0, 5, 7), 2);
        due.is("to the least", m.mind(0, 0, 7), 5);
        due.is("the least", m.of(0, 0), 0);
        new Twins(due).outside(0, 5, "mind", 0, Twins.V, 7);
    }

    private static void promise10_wishIs0To99(Due due) {
        WoolMarket m = Due.told("magistrate wish 7;");
        m.mind(0, 2, 99);
        due.is("the most", m.of(0, 2), 99);
        m.mind(0, 2, 0);
        due.is("the least", m.of(0, 2), 0);
        new Twins(due).outside(0, 99, "mind", 0, 2, Twins.V);
    }

    private static void promise10_onlyThoseWhoAreThere(Due due) {
        WoolMarket m = new WoolMarket();
        fill(m);
        due.is("the first", m.mind(0, 1, 1), 0);
        due.is("the last of eight", m.mind(7, 1, 1), 0);
        due.is("a ninth", m.mind(8, 1, 1), -1);
        new Twins(due).outside(0, Twins.PEOPLE - 1, "mind", Twins.V, 1, 1);
    }

    /** The most and the least that one may be told to have of this. */
    private static void changesUpTo(Due due, int what, int most) {
        WoolMarket m = Due.told("buyer truth 7 web 7 coins 7;");
        due.is("to the most", m.change(0, what, most), 7);
        due.is("to the least", m.change(0, what, 0), most);
        due.is("the least", m.of(0, what), 0);
        new Twins(due).outside(0, most, "change", 1, what, Twins.V);
    }

    private static void promise11_truthIs0To99(Due due) {
        changesUpTo(due, 1, 99);
    }

    private static void promise11_webIs0To99(Due due) {
        changesUpTo(due, 3, 99);
    }

    private static void promise11_coinsAre0To9999(Due due) {
        changesUpTo(due, 4, 9999);
    }

    private static void promise11_nothingElseChanges(Due due) {
        Twins twins = new Twins(due);
        twins.answer(-1, "change", 1, 0, 1);
        twins.answer(-1, "change", 1, 2, 1);
        twins.outside(0, 4, "change", 1, Twins.V, 1);
    }

    private static void promise11_onlyThoseWhoAreThere(Due due) {
        WoolMarket m = new WoolMarket();
        fill(m);
        due.is("the first", m.change(0, 1, 1), 20);
        due.is("the last of eight", m.change(7, 1, 1), 27);
        due.is("a ninth", m.change(8, 1, 1), -1);
        new Twins(due).outside(0, Twins.PEOPLE - 1, "change", Twins.V, 1, 1);
    }

    private static void promise12_notOneAndTheSame(Due due) {
        new Twins(due).answer(-1, "trade", 0, 0);
        new Twins(due).answer(-1, "trade", 4, 4);
    }

    private static void promise12_onlyThoseWhoAreThere(Due due) {
        WoolMarket m = new WoolMarket();
        fill(m);
        due.is("the first and the last of eight", m.trade(0, 7), 1);
        due.is("the first", m.of(0, 1), 27);
        due.is("the last", m.of(7, 1), 20);
        due.is("a ninth", m.trade(0, 8), -1);
        new Twins(due).outside(0, Twins.PEOPLE - 1, "trade", Twins.V, 2);
        new Twins(due).outside(0, Twins.PEOPLE - 1, "trade", 2, Twins.V);
    }
}
