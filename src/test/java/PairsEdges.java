/** Edges of promises 26 to 30: who is FAIR, PAIRED, FITS, ODDS and HOPE. */
final class PairsEdges {
    private PairsEdges() {
    }

    private static void promise26_onlyOfThoseWhoAreThere(Due due) {
        WoolMarket m = Due.told("buyer;".repeat(8));
        due.is("the first", m.fair(0), 254);
        due.is("the last of eight", m.fair(7), 127);
        due.is("a ninth", m.fair(8), -1);
        new Twins(due).outside(0, Twins.PEOPLE - 1, "fair", Twins.V);
    }

    private static void promise26_notWithOneself(Due due) {
        due.is("alone", Due.told("buyer;").fair(0), 0);
        due.is("two", Due.told("buyer;buyer;").fair(1), 1);
    }

    private static void promise26_asMuchAndNoLess(Due due) {
        WoolMarket m = Due.told("buyer truth 7; buyer truth 6; buyer truth 8; buyer truth 7;");
        due.is("with as much alone", m.fair(0), 8);
    }

    private static void promise26_offersBelow0AreFairToo(Due due) {
        WoolMarket m = Due.told("uncle; uncle; uncle truth 1;");
        due.is("10 below 0", m.fair(0), 2);
        due.is("9 below 0", m.fair(2), 0);
    }

    private static void promise26_nothingChanges(Due due) {
        new Twins(due).answer(Twins.busy().fair(3), "fair", 3);
    }

    private static void promise27_nobodyAndOneAloneAreNoPair(Due due) {
        due.is("nobody", new WoolMarket().paired(), 0);
        due.is("one", Due.told("buyer truth 9;").paired(), 0);
    }

    private static void promise27_theOddOneStaysAlone(Due due) {
        due.is("two", Due.told("buyer truth 9; buyer truth 5;").paired(), 14);
        due.is("three, the second alone", Due.told("buyer truth 9; buyer truth 5; buyer truth 6;").paired(), 15);
        due.is("three, the first alone", Due.told("buyer truth 5; buyer truth 9; buyer truth 6;").paired(), 15);
        due.is("three, the last alone", Due.told("buyer truth 6; buyer truth 9; buyer truth 5;").paired(), 15);
    }

    private static void promise27_anOfferBelow0IsWorth0(Due due) {
        due.is("one of two", Due.told("uncle truth 3; uncle truth 30;").paired(), 20);
        due.is("both", Due.told("uncle truth 3; uncle truth 3;").paired(), 0);
        due.is("1 below", Due.told("uncle truth 9; uncle truth 12;").paired(), 2);
    }

    private static void promise27_nobodyIsInTwoPairs(Due due) {
        due.is("the best for all", Due.told("buyer truth 99; buyer; buyer;").paired(), 99);
        // As one pair the buyers make 16, and the uncles 10; with an uncle each they make 15 and 15.
        due.is("not the best pair", Due.told("uncle truth 15; uncle truth 15; buyer truth 8; buyer truth 8;").paired(), 30);
    }

    private static void promise27_eightMakeFourPairs(Due due) {
        StringBuilder text = new StringBuilder();
        for (int i = 1; i <= 8; i++) {
            text.append("buyer truth ").append(i).append(';');
        }
        due.is("buyers", Due.told(text.toString()).paired(), 36);
        due.is("seven", Due.told(text.substring("buyer truth 1;".length())).paired(), 33);
        // What an uncle sees is worth 10 less: they must stand with a buyer each, the first one with the last one too.
        String mixed = "uncle truth 20;".repeat(4) + "buyer truth 5;".repeat(4);
        due.is("uncles and buyers", Due.told(mixed).paired(), 4 * 20);
    }

    private static void promise27_nothingChanges(Due due) {
        new Twins(due).answer(Twins.busy().paired(), "paired");
    }

    /** With a web of w the first one pays 99 less w each DAY of its 50 coins, and gets nothing. */
    private static WoolMarket payer(int sort, int... purses) {
        WoolMarket m = Due.told("buyer; buyer truth 99; fray 0;");
        m.sheet(0, sort, purses.length);
        for (int i = 0; i < purses.length; i++) {
            m.put(0, i, purses[i]);
        }
        return m;
    }

    private static void promise28_webs0To99(Due due) {
        WoolMarket thickest = payer(2, 50);
        due.is("99 alone", thickest.fits(0, 0, 0), 1);
        due.is("99 is the least", thickest.fits(0, 0, 1), 99);
        WoolMarket thinnest = Due.told("buyer wish 99; buyer; fray 0;");
        thinnest.sheet(0, 2, 1);
        thinnest.put(0, 0, 50);
        due.is("0 alone", thinnest.fits(0, 0, 0), 1);
        due.is("0 is the least", thinnest.fits(0, 0, 1), 0);
    }

    private static void promise28_anEmptyRowFitsAllWebs(Due due) {
        WoolMarket m = payer(2);
        due.is("how many", m.fits(0, 0, 0), 100);
        due.is("the least", m.fits(0, 0, 1), 0);
    }

    private static void promise28_below0AnyIsMinus1Alone(Due due) {
        due.is("any", payer(2, -1, -1).fits(0, 0, 0), 100);
        due.is("any, then 0", payer(2, -1, 0).fits(0, 0, 0), 75);
        due.is("0, then any", payer(2, 0, -1).fits(0, 0, 0), 50);
        due.is("2 below 0", payer(2, -2).fits(0, 0, 0), 0);
        due.is("no more than none", payer(2, 0, 1).fits(0, 0, 0), 0);
    }

    private static void promise28_eachSortOfASheet(Due due) {
        for (int sort = 0; sort < 4; sort++) {
            due.is("sort " + sort, payer(sort, 20, -1).fits(0, 0, 1), 69);
        }
        due.is("255 as a byte is any", payer(0, 255).fits(0, 0, 0), 100);
        due.is("65535 as a short is any", payer(1, 65535).fits(0, 0, 0), 100);
        due.is("65535 as an int is not", payer(2, 65535).fits(0, 0, 0), 0);
    }

    private static void promise28_aRowOf40(Due due) {
        int[] purses = new int[40];
        java.util.Arrays.fill(purses, -1);
        purses[39] = 10;
        due.is("the last is asked", payer(1, purses).fits(0, 0, 1), 98);
        due.is("the last is asked", payer(1, purses).fits(0, 0, 0), 1);
    }

    private static void promise28_noneIsNoneForTheLeastAlone(Due due) {
        WoolMarket m = payer(2, 51);
        due.is("how many", m.fits(0, 0, 0), 0);
        due.is("the least", m.fits(0, 0, 1), -3);
        new Twins(due, t -> t.put(0, 0, -2)).answer(-3, "fits", 0, 1, 1);
    }

    private static void promise28_sheetsAre0To3(Due due) {
        WoolMarket m = Due.told("buyer;");
        m.sheet(0, 0, 0);
        m.sheet(3, 0, 0);
        due.is("the first", m.fits(0, 0, 0), 100);
        due.is("the last", m.fits(3, 0, 0), 100);
        new Twins(due).outside(0, 3, "fits", Twins.V, 1, 0);
    }

    private static void promise28_onlyOfThoseWhoAreThere(Due due) {
        WoolMarket m = Due.told("buyer;".repeat(8));
        m.sheet(0, 0, 0);
        due.is("the first", m.fits(0, 0, 0), 100);
        due.is("the last of eight", m.fits(0, 7, 0), 100);
        due.is("a ninth", m.fits(0, 8, 0), -1);
        new Twins(due).outside(0, Twins.PEOPLE - 1, "fits", 0, Twins.V, 0);
    }

    private static void promise28_whatIs0And1(Due due) {
        WoolMarket m = payer(2, 20);
        due.is("how many", m.fits(0, 0, 0), 1);
        due.is("the least", m.fits(0, 0, 1), 69);
        new Twins(due).outside(0, 1, "fits", 0, 1, Twins.V);
    }

    private static void promise28_aMissingSheet(Due due) {
        new Twins(due).answer(-11, "fits", 3, 1, 0);
        new Twins(due).answer(-11, "fits", 3, 1, 1);
    }

    private static void promise28_badBeforeMissing(Due due) {
        Twins twins = new Twins(due);
        twins.answer(-1, "fits", 3, Twins.PEOPLE, 0);
        twins.answer(-1, "fits", 3, 1, 2);
    }

    private static void promise28_nothingChanges(Due due) {
        new Twins(due).answer(Twins.busy().fits(1, 1, 0), "fits", 1, 1, 0);
    }

    private static void odds(Due due, int slip, int n, int k, long above, long below) {
        WoolMarket m = new WoolMarket();
        m.set(3, slip);
        String told = k + " of " + n + ", SLIP " + slip;
        due.is(told + ", above", m.odds(n, k, 0), above);
        due.is(told + ", below", m.odds(n, k, 1), below);
    }

    private static void promise29_nIs0To8(Due due) {
        odds(due, 50, 0, 0, 1, 1);
        odds(due, 50, 1, 1, 1, 2);
        odds(due, 50, 8, 4, 35, 128);
        new Twins(due).outside(0, 8, "odds", Twins.V, 0, 0);
    }

    private static void promise29_kIs0ToN(Due due) {
        odds(due, 50, 8, 0, 1, 256);
        odds(due, 50, 8, 8, 1, 256);
        odds(due, 50, 3, 3, 1, 8);
        for (int n = 0; n <= 8; n++) {
            new Twins(due).outside(0, n, "odds", n, Twins.V, 0);
        }
    }

    private static void promise29_partIs0And1(Due due) {
        odds(due, 20, 1, 0, 4, 5);
        new Twins(due).outside(0, 1, "odds", 1, 1, Twins.V);
    }

    private static void promise29_withoutACommonDivisor(Due due) {
        odds(due, 20, 2, 1, 8, 25);
        odds(due, 75, 2, 2, 9, 16);
        odds(due, 37, 1, 1, 37, 100);
    }

    private static void promise29_zeroIs0By1(Due due) {
        odds(due, 0, 1, 1, 0, 1);
        odds(due, 0, 8, 8, 0, 1);
        odds(due, 0, 8, 1, 0, 1);
    }

    private static void promise29_withoutSlipNoneSlips(Due due) {
        odds(due, 0, 0, 0, 1, 1);
        odds(due, 0, 8, 0, 1, 1);
    }

    private static void promise29_theGreatestNumbers(Due due) {
        odds(due, 99, 8, 0, 1, 10_000_000_000_000_000L);
        odds(due, 99, 8, 8, 9_227_446_944_279_201L, 10_000_000_000_000_000L);
        odds(due, 1, 8, 8, 1, 10_000_000_000_000_000L);
    }

    private static void promise29_nothingChanges(Due due) {
        new Twins(due).answer(Twins.busy().odds(8, 3, 1), "odds", 8, 3, 1);
    }

    private static void hope(Due due, int slip, int n, long above, long below) {
        WoolMarket m = new WoolMarket();
        m.set(3, slip);
        due.is("of " + n + ", SLIP " + slip + ", above", m.hope(n, 0), above);
        due.is("of " + n + ", SLIP " + slip + ", below", m.hope(n, 1), below);
    }

    private static void promise30_nIs0To99(Due due) {
        hope(due, 99, 1, 99, 100);
        hope(due, 99, 99, 9801, 100);
        new Twins(due).outside(0, 99, "hope", Twins.V, 0);
    }

    private static void promise30_partIs0And1(Due due) {
        hope(due, 20, 7, 7, 5);
        new Twins(due).outside(0, 1, "hope", 7, Twins.V);
    }

    private static void promise30_zeroIs0By1(Due due) {
        hope(due, 20, 0, 0, 1);
        hope(due, 0, 99, 0, 1);
        hope(due, 0, 0, 0, 1);
    }

    private static void promise30_wholeNumbersAreBy1(Due due) {
        hope(due, 50, 2, 1, 1);
        hope(due, 50, 98, 49, 1);
    }

    private static void promise30_nothingChanges(Due due) {
        new Twins(due).answer(Twins.busy().hope(99, 1), "hope", 99, 1);
    }
}
