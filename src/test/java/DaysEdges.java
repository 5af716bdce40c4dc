/** Edges of promises 13 to 17: DAYS, z, DAYS BY DRAWS, LUCKY, and what is so of all. */
final class DaysEdges {
    private DaysEdges() {
    }

    private static void promise13_nIs1To60(Due due) {
        WoolMarket m = Due.told("buyer web 99;");
        m.days(1);
        due.is("behind one DAY", m.state(0), 1);
        m.days(60);
        due.is("behind 60 more", m.state(0), 61);
        due.is("each is a DAY", m.of(0, 3), 38);
        new Twins(due).outside(1, 60, "days", Twins.V);
    }

    private static void promise13_nobodysDays(Due due) {
        WoolMarket m = new WoolMarket();
        due.is("coins", m.days(60), 0);
        due.is("DAY", m.state(0), 60);
        due.is("CHEST", m.state(1), 0);
    }

    private static void promise13_oneAlonePaysNothing(Due due) {
        WoolMarket m = Due.told("magistrate truth 99 wish 99 web 9 coins 7;toll 9;");
        due.is("coins", m.days(1), 7);
        due.is("CHEST", m.state(1), 0);
        due.is("its web frays", m.of(0, 3), 7);
    }

    private static void promise13_twoPayEachOther(Due due) {
        WoolMarket m = Due.told("buyer truth 30; buyer truth 20;");
        due.is("coins", m.days(1), 100);
        due.is("the first", m.of(0, 4), 60);
        due.is("the second", m.of(1, 4), 40);
    }

    private static void promise13_behindTheLastComesTheFirst(Due due) {
        WoolMarket m = Due.told("buyer truth 7;buyer;buyer;buyer;buyer;buyer;buyer;buyer;");
        m.days(1);
        due.is("the first", m.of(0, 4), 57);
        due.is("the last", m.of(7, 4), 43);
        due.is("another one", m.of(6, 4), 50);
    }

    /** What a first one has left of its coins where it offers this; the second one offers nothing. */
    private static int left(String first, int coins, int truth, String laws) {
        WoolMarket m = Due.told(first + ";buyer coins 0;" + laws);
        m.change(0, 4, coins);
        m.change(1, 1, truth);
        m.days(1);
        return m.of(0, 4);
    }

    private static void promise13_anOfferBelow0PaysNothing(Due due) {
        due.is("10 below", left("uncle", 50, 0, ""), 50);
        due.is("1 below", left("uncle", 50, 9, ""), 50);
        due.is("0", left("uncle", 50, 10, ""), 50);
        due.is("1", left("uncle", 50, 11, ""), 49);
        due.is("a wife's", left("wife", 50, 8, "weft 9;"), 50);
        due.is("a knitter's", left("knitter", 50, 0, "weft 9;"), 50);
    }

    private static void promise13_noMoreIsPaidThanThereIs(Due due) {
        due.is("one more than is offered", left("buyer", 41, 40, ""), 1);
        due.is("as much as is offered", left("buyer", 40, 40, ""), 0);
        due.is("one less than is offered", left("buyer", 39, 40, ""), 0);
        due.is("none", left("buyer", 0, 40, ""), 0);
    }

    /** With TOLL 9: what comes to THE CHEST and to the other one, who has 0. */
    private static void pays(Due due, int paid, int chest, int coming) {
        WoolMarket m = Due.told("buyer;buyer coins 0;toll 9;");
        m.change(1, 1, paid);
        m.days(1);
        due.is("left, of " + paid, m.of(0, 4), 50 - paid);
        due.is("CHEST, of " + paid, m.state(1), chest);
        due.is("the other one, of " + paid, m.of(1, 4), coming);
    }

    private static void promise13_theTollIsNoMoreThanWhatIsPaid(Due due) {
        pays(due, 0, 0, 0);
        pays(due, 1, 1, 0);
        pays(due, 8, 8, 0);
        pays(due, 9, 9, 0);
        pays(due, 10, 9, 1);
    }

    private static void promise13_withoutTollNothingComesToTheChest(Due due) {
        WoolMarket m = Due.told("buyer;buyer truth 7 coins 0;toll 0;");
        m.days(1);
        due.is("CHEST", m.state(1), 0);
        due.is("the other one", m.of(1, 4), 7);
    }

    /** What one with so many coins has when 50 more come; all coins then are what the first one has left and these. */
    private static void promise13_coinsAreHeldTo9999AndTheRestIsLost(Due due) {
        int[][] comes = {{9948, 9998}, {9949, 9999}, {9950, 9999}, {9999, 9999}};
        for (int[] c : comes) {
            WoolMarket m = Due.told("buyer; buyer truth 99;");
            m.change(1, 4, c[0]);
            due.is("all coins, to " + c[0], m.days(1), c[1]);
            due.is("to " + c[0], m.of(1, 4), c[1]);
        }
    }

    private static WoolMarket withChestOf99992() {
        WoolMarket m = Due.told("buyer truth 99;".repeat(8) + "toll 9;");
        for (int day = 0; day < 1380; day += 60) {
            refill(m);
            m.days(60);
        }
        refill(m);
        m.days(8);
        m.set(2, 1);
        m.days(7);
        return m;
    }

    private static void refill(WoolMarket m) {
        for (int i = 0; i < 8; i++) {
            m.change(i, 4, 9999);
        }
    }

    private static void promise13_theChestIsHeldTo99999(Due due) {
        WoolMarket m = withChestOf99992();
        due.is("23 times 60 days and 8 of 72, 7 days of 8", m.state(1), 99992);
        m.keep();
        m.days(1);
        due.is("8 more", m.state(1), 99999);
        m.days(1);
        due.is("no more", m.state(1), 99999);
        m.again();
        m.change(0, 1, 0);
        m.days(1);
        due.is("the last one pays the first nothing: 7 more", m.state(1), 99999);
    }

    private static void promise13_coinsComeAtOnce(Due due) {
        WoolMarket m = Due.told("buyer truth 1; buyer truth 40 coins 0; buyer truth 35 coins 0;");
        m.days(1);
        due.is("the first pays 40 and gets 1", m.of(0, 4), 11);
        due.is("the second gets 40 and pays 35", m.of(1, 4), 5);
        due.is("the third gets 35 and pays 1", m.of(2, 4), 34);
    }

    /** All pay before a web frays: by a web of 1 the second one sees 98 of 99. */
    private static void promise13_allPayBeforeWebsFray(Due due) {
        WoolMarket m = Due.told("buyer truth 99; buyer web 1 coins 200;");
        m.days(1);
        due.is("behind a DAY", m.of(1, 4), 102);
        m.days(1);
        due.is("behind the next one", m.of(1, 4), 3);
    }

    private static void promise13_websAreHeldTo0(Due due) {
        WoolMarket m = Due.told("buyer web 10;buyer web 9;buyer web 8;buyer;uncle web 19;uncle web 18;uncle web 17;fray 9;");
        m.days(1);
        int[] want = {1, 0, 0, 0, 1, 0, 0};
        for (int i = 0; i < want.length; i++) {
            due.is("web of " + i, m.of(i, 3), want[i]);
        }
    }

    private static void promise13_websAreHeldTo99(Due due) {
        WoolMarket m = Due.told("wife web 96;wife web 97;wife web 98;wife web 99;wife;knitter web 87;knitter web 88;knitter web 89;"
            + "weft 9;fray 0;");
        m.days(1);
        int[] want = {98, 99, 99, 99, 2, 98, 99, 99};
        for (int i = 0; i < want.length; i++) {
            due.is("web of " + i, m.of(i, 3), want[i]);
        }
    }

    private static void promise13_aClerksWebFraysInEvenDaysAlone(Due due) {
        WoolMarket m = Due.told("clerk web 99;fray 9;");
        int[] want = {81, 81, 63, 63, 45};
        for (int i = 0; i < want.length; i++) {
            m.days(1);
            due.is("behind DAY " + i, m.of(0, 3), want[i]);
        }
        WoolMarket at = Due.told("clerk web 99;fray 9;");
        at.days(5);
        due.is("five at once", at.of(0, 3), 45);
    }

    private static void promise14_zIsAnyInt(Due due) {
        WoolMarket m = new WoolMarket();
        int[] all = {0, -1, Integer.MIN_VALUE, Integer.MAX_VALUE, 1};
        int was = 1;
        for (int v : all) {
            due.is("seed " + v, m.seed(v), was);
            was = v;
        }
    }

    /** The web of one of eight people, all with webs of 50, behind a DAY BY DRAWS from z. */
    private static int webBehindDraws(int z, int slip, int person) {
        WoolMarket m = Due.told("buyer web 50;".repeat(8));
        m.set(3, slip);
        m.seed(z);
        m.day();
        return m.of(person, 3);
    }

    private static void promise15_withNobodyThereAreNoDraws(Due due) {
        WoolMarket m = new WoolMarket();
        due.is("coins", m.day(), 0);
        due.is("z stays", m.seed(5), 1);
        due.is("DAY", m.state(0), 1);
    }

    private static void promise15_oneAloneIsDrawn(Due due) {
        WoolMarket m = Due.told("buyer web 50; slip 27;");
        due.is("coins", m.day(), 50);
        due.is("its web", m.of(0, 3), 0);
        due.is("z behind two draws", m.seed(1), -1770082073);
    }

    private static void promise15_thereAreTwoDrawsWithoutASlipToo(Due due) {
        WoolMarket m = Due.told("buyer web 50; slip 0;");
        m.day();
        due.is("its web", m.of(0, 3), 49);
        due.is("z behind two draws", m.seed(1), -1770082073);
    }

    /** From 6566 on: 1087, which leaves 7 by 8, and 60000, which leaves 0 by 100. */
    private static void promise15_theLeastDrawIsBelow1AndNotBelow0(Due due) {
        due.is("SLIP 0", webBehindDraws(6566, 0, 7), 49);
        due.is("SLIP 1", webBehindDraws(6566, 1, 7), 0);
    }

    /** From 19 on: 57784, which leaves 0 by 8, and 17901, which leaves 1 by 100. */
    private static void promise15_asMuchAsSlipIsNotBelow(Due due) {
        due.is("SLIP 1", webBehindDraws(19, 1, 0), 49);
        due.is("SLIP 2", webBehindDraws(19, 2, 0), 0);
    }

    /** From 6433 on: 55352 and 52198; from 5390 on: 56647 and 53099. */
    private static void promise15_theMostDrawIsNeverBelowSlip(Due due) {
        due.is("98, SLIP 98", webBehindDraws(6433, 98, 0), 49);
        due.is("98, SLIP 99", webBehindDraws(6433, 99, 0), 0);
        due.is("99, SLIP 99", webBehindDraws(5390, 99, 7), 49);
    }

    private static void promise15_theFirstAndTheLastAreDrawn(Due due) {
        for (int i = 0; i < 8; i++) {
            due.is("0 is left, web of " + i, webBehindDraws(6433, 99, i), i == 0 ? 0 : 49);
            due.is("7 is left, web of " + i, webBehindDraws(6566, 99, i), i == 7 ? 0 : 49);
        }
    }

    /** From 7605 on z is below 0 twice: 63511 and 56401 are drawn, which leave 7 and 1. */
    private static void promise15_whatIsDrawnFromAZBelow0IsAbove0(Due due) {
        due.is("SLIP 2", webBehindDraws(7605, 2, 7), 0);
        due.is("SLIP 1", webBehindDraws(7605, 1, 7), 49);
    }

    /** A wife's web is mended by 1 in that DAY; one who has slipped sees all 9 that the other one is worth, and pays them. */
    private static void promise15_aSlipIsBeforeTheDay(Due due) {
        WoolMarket m = Due.told("wife web 98; slip 99;");
        m.day();
        due.is("her web", m.of(0, 3), 1);
        WoolMarket pays = Due.told("buyer web 99; buyer truth 9 web 99; slip 99;");
        pays.day();
        due.is("what the first has", pays.of(0, 4), 41);
    }

    private static void promise15_zWraps(Due due) {
        int[][] behindTwo = {{1, -1770082073}, {Integer.MAX_VALUE, -1858503659}, {Integer.MIN_VALUE, 1406932606}, {-1, 288979989}};
        for (int[] z : behindTwo) {
            WoolMarket m = Due.told("buyer;");
            m.seed(z[0]);
            m.day();
            due.is("from " + z[0], m.seed(1), z[1]);
        }
    }

    /** In how many of n DAYS BY DRAWS the first one of two slips, with SLIP 99. */
    private static int slipsOfFirst(int z, int n) {
        int slips = 0;
        for (int i = 0; i < n; i++) {
            z = z * 1103515245 + 12345;
            boolean isFirst = (z >>> 16) % 2 == 0;
            z = z * 1103515245 + 12345;
            slips += isFirst && (z >>> 16) % 100 < 99 ? 1 : 0;
        }
        return slips;
    }

    private static void promise16_nIs1To30(Due due) {
        WoolMarket m = Due.told("buyer web 99;buyer truth 1;slip 99;");
        due.is("the least", m.lucky(1, 1), 1);
        due.is("the most", m.lucky(1, 30), slipsOfFirst(1, 30));
        new Twins(due).outside(1, 30, "lucky", 1, Twins.V);
    }

    private static void promise16_onlyThoseWhoAreThere(Due due) {
        WoolMarket m = Due.told("buyer;".repeat(8));
        due.is("the first", m.lucky(0, 1), 0);
        due.is("the last of eight", m.lucky(7, 1), 0);
        due.is("a ninth", m.lucky(8, 1), -1);
        new Twins(due).outside(0, Twins.PEOPLE - 1, "lucky", Twins.V, 3);
    }

    private static void promise16_asMuchIsNotMore(Due due) {
        due.is("alone it always has as much", Due.told("buyer web 9;slip 99;").lucky(0, 30), 0);
        WoolMarket m = Due.told("buyer;buyer truth 1 coins 0;slip 0;");
        due.is("without a slip it has as much", m.lucky(0, 30), 0);
        due.is("the other one too", m.lucky(1, 30), 0);
    }

    /** Through a web of 99 the first one pays nothing; where it slips it pays 1, and the second one is lucky. */
    private static void promise16_oneMoreIsMore(Due due) {
        WoolMarket m = Due.told("buyer web 99;buyer truth 1;slip 99;");
        m.seed(6566);
        for (int n = 1; n <= 30; n++) {
            due.is("in " + n, m.lucky(1, n), slipsOfFirst(6566, n));
        }
        due.is("the first one never is", m.lucky(0, 30), 0);
    }

    private static void promise16_nothingChangesZNeither(Due due) {
        new Twins(due).answer(Twins.busy().lucky(1, 30), "lucky", 1, 30);
    }

    private static void promise17_whatIs0To5(Due due) {
        WoolMarket m = Due.told("buyer truth 9;buyer truth 9 wish 9 web 40;buyer truth 9;toll 2;");
        m.days(1);
        int[] want = {1, 6, 144, 5, 39, 3};
        for (int what = 0; what < want.length; what++) {
            due.is("state " + what, m.state(what), want[what]);
        }
        new Twins(due).outside(0, 5, "state", Twins.V);
    }

    private static void promise17_withNobodyAllIs0(Due due) {
        WoolMarket m = new WoolMarket();
        for (int what = 0; what <= 5; what++) {
            due.is("state " + what, m.state(what), 0);
        }
    }

    private static void promise17_theMostOfEight(Due due) {
        WoolMarket m = Due.told("buyer web 99;".repeat(8));
        for (int i = 0; i < 8; i++) {
            m.change(i, 4, 9999);
        }
        due.is("COINS", m.state(2), 79992);
        due.is("ON THE STEPS", m.state(3), 0);
        due.is("WEB", m.state(4), 792);
        due.is("FAIR pairs", m.state(5), 28);
        for (int i = 0; i < 8; i++) {
            m.change(i, 3, 0);
        }
        due.is("all ON THE STEPS", m.state(3), 255);
        due.is("no WEB", m.state(4), 0);
    }

    private static void promise17_theFirstIsTheLowestBitOfASet(Due due) {
        due.is("the first", Due.told("buyer;" + "buyer web 1;".repeat(7)).state(3), 1);
        due.is("the last", Due.told("buyer web 1;".repeat(7) + "buyer;").state(3), 128);
    }
}
