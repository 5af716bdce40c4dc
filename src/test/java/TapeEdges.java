/** Edges of promises 2 and 3: THE TAPE, and the market of its TEXT. */
final class TapeEdges {
    private TapeEdges() {
    }

    private static void promise2_nIs1To8(Due due) {
        WoolMarket m = new WoolMarket();
        due.is("one", m.feed(32, 1), 1);
        due.is("eight", m.feed(0x2020202020202020L, 8), 9);
        due.is("they are blanks", m.market(), 0);
        new Twins(due).outside(1, 8, "feed", 32, Twins.V);
    }

    private static void promise2_theLowestComesFirst(Due due) {
        WoolMarket m = new WoolMarket();
        due.is("five", m.feed(0x3b65666977L, 5), 5);
        due.is("wife;", m.market(), 1);
        due.is("wife;", m.of(0, 0), 1);
    }

    private static void promise2_thoseAboveNDontCome(Due due) {
        WoolMarket m = new WoolMarket();
        due.is("five", m.feed(0xFFFFFF3b65666977L, 5), 5);
        due.is("wife;", m.market(), 1);
    }

    private static void promise2_theEighthMayBe255(Due due) {
        WoolMarket m = new WoolMarket();
        due.is("eight", m.feed(0xFF20203b65666977L, 8), 8);
        due.is("its place", m.market(), -107);
    }

    /** Blanks behind what is on THE TAPE. */
    private static void fillTo(WoolMarket m, int bytes) {
        while (m.many(5) < bytes) {
            m.feed(0x2020202020202020L, Math.min(8, bytes - m.many(5)));
        }
    }

    private static void promise2_twoHundredAreNotTooMany(Due due) {
        for (int n = 1; n <= 8; n++) {
            WoolMarket m = new WoolMarket();
            fillTo(m, 200 - n);
            due.is("up to 200 by " + n, m.feed(0x2020202020202020L, n), 200);
            due.is("no byte is lost", m.many(5), 200);
        }
    }

    private static void promise2_fullWhereMoreThan200(Due due) {
        for (int n = 1; n <= 8; n++) {
            int bytes = 201 - n;
            new Twins(due, m -> fillTo(m, bytes)).answer(-2, "feed", 0x2121212121212121L, n);
        }
        new Twins(due, m -> fillTo(m, 200)).answer(-2, "feed", 0x2121212121212121L, 8);
    }

    private static void promise2_badBeforeFull(Due due) {
        new Twins(due, m -> fillTo(m, 200)).outside(1, 8, "feed", 32, Twins.V);
    }

    private static void promise2_emptyAgainBehindMarket(Due due) {
        WoolMarket m = new WoolMarket();
        fillTo(m, 200);
        due.is("market", m.market(), 0);
        due.is("bytes", m.many(5), 0);
        due.is("feed", m.feed(0x2121212121212121L, 8), 8);
    }

    private static void people(Due due, String text, int want) {
        due.is("people of " + text, Due.read(new WoolMarket(), text), want);
    }

    private static void fault(Due due, String text, int place) {
        due.is("fault of " + text, Due.read(new WoolMarket(), text), -100 - place);
    }

    private static void promise3_anEmptyTapeTellsNobody(Due due) {
        WoolMarket m = Twins.busy();
        due.is("market", m.market(), 0);
        WoolMarket first = new WoolMarket();
        due.is("people", m.many(0), 0);
        for (int what = 0; what <= 5; what++) {
            due.is("state " + what, m.state(what), first.state(what));
        }
        for (int law = 0; law < 4; law++) {
            due.is("law " + law, m.lawOf(law), first.lawOf(law));
        }
    }

    private static void promise3_blanksAloneTellNobody(Due due) {
        people(due, " ", 0);
        people(due, " ".repeat(200), 0);
    }

    private static void promise3_aTextOf200BytesIsReadWhole(Due due) {
        people(due, "uncle" + " ".repeat(194) + ";", 1);
        people(due, "uncle;".repeat(8) + "toll 1;".repeat(21) + " fray", -300);
    }

    private static void promise3_theEndIsHowManyBytesThereAre(Due due) {
        fault(due, "uncle", 5);
        fault(due, "uncle  ", 7);
        fault(due, " ".repeat(195) + "uncle", 200);
        fault(due, " ".repeat(194) + "toll 9", 200);
        fault(due, "uncle" + " ".repeat(195), 200);
        fault(due, "uncle;toll", 10);
        fault(due, "uncle;toll 9", 12);
        fault(due, "uncle web", 9);
        fault(due, "uncle web ", 10);
        fault(due, "uncle web 9", 11);
        fault(due, "uncle coins 9 ", 14);
    }

    private static void promise3_theFirstByteIsPlace0(Due due) {
        fault(due, "!", 0);
        fault(due, "x", 0);
        fault(due, "7", 0);
        fault(due, ";", 0);
        fault(due, " !", 1);
    }

    private static void promise3_theFirstThatCantStandThereIsTheFault(Due due) {
        fault(due, "uncle;! x 7", 6);
        fault(due, "uncle web 100; weft 10;", 10);
        fault(due, "uncle web 100!", 10);
        fault(due, "uncle wish web", 11);
    }

    /** What: of()'s. The NUMBER stands behind "uncle " and the name. */
    private static void traitIsUpTo(Due due, String name, int what, int most) {
        String text = "uncle " + name + " ";
        int place = text.length();
        due.is("the least " + name, Due.told(text + "0;").of(0, what), 0);
        due.is("the most " + name, Due.told(text + most + ";").of(0, what), most);
        fault(due, text + (most + 1) + ";", place);
        fault(due, text + "-1;", place);
        fault(due, text + "999999999999;", place);
    }

    private static void promise3_truthIs0To99(Due due) {
        traitIsUpTo(due, "truth", 1, 99);
    }

    private static void promise3_wishIs0To99(Due due) {
        traitIsUpTo(due, "wish", 2, 99);
    }

    private static void promise3_webIs0To99(Due due) {
        traitIsUpTo(due, "web", 3, 99);
    }

    private static void promise3_coinsAre0To999(Due due) {
        traitIsUpTo(due, "coins", 4, 999);
    }

    private static void lawIsUpTo(Due due, String name, int law, int most) {
        due.is("the least " + name, Due.told(name + " 0;").lawOf(law), 0);
        due.is("the most " + name, Due.told(name + " " + most + ";").lawOf(law), most);
        fault(due, name + " " + (most + 1) + ";", name.length() + 1);
        fault(due, name + " -1;", name.length() + 1);
        fault(due, name + " 999;", name.length() + 1);
    }

    private static void promise3_weftIs0To9(Due due) {
        lawIsUpTo(due, "weft", 0, 9);
    }

    private static void promise3_frayIs0To9(Due due) {
        lawIsUpTo(due, "fray", 1, 9);
    }

    private static void promise3_tollIs0To9(Due due) {
        lawIsUpTo(due, "toll", 2, 9);
    }

    private static void promise3_slipIs0To99(Due due) {
        lawIsUpTo(due, "slip", 3, 99);
    }

    private static void promise3_numbersHave1To3Digits(Due due) {
        due.is("one digit", Due.told("uncle coins 7;").of(0, 4), 7);
        due.is("three digits", Due.told("uncle coins 007;").of(0, 4), 7);
        due.is("three digits of a law", Due.told("toll 009;").lawOf(2), 9);
        fault(due, "uncle coins ;", 12);
        fault(due, "uncle coins 0007;", 12);
        fault(due, "toll 0009;", 5);
        // 7 more than 2 to the 32nd, and than 2 to the 64th.
        fault(due, "uncle coins 4294967303;", 12);
        fault(due, "uncle coins 18446744073709551623;", 12);
    }

    private static void promise3_numbersGoAsLongAsTheyGo(Due due) {
        fault(due, "uncle coins 1 2;", 14);
        fault(due, "toll 1 2;", 7);
        due.is("as long as it goes", Due.told("uncle coins 123;").of(0, 4), 123);
    }

    private static void promise3_withoutTruthWishAndWebTheyAre0(Due due) {
        WoolMarket m = Due.told("uncle truth 9 wish 9 web 9 coins 9; uncle;");
        for (int what = 1; what <= 3; what++) {
            due.is("trait " + what, m.of(1, what), 0);
        }
        Due.read(m, "uncle;");
        for (int what = 1; what <= 3; what++) {
            due.is("trait " + what + " where an earlier market told it", m.of(0, what), 0);
        }
    }

    private static void promise3_withoutCoinsTheyAre50(Due due) {
        WoolMarket m = Due.told("uncle coins 9; uncle;");
        due.is("coins", m.of(1, 4), 50);
        Due.read(m, "uncle;");
        due.is("coins where an earlier market told them", m.of(0, 4), 50);
    }

    private static void promise3_whatAFaultyTextToldIsNotTold(Due due) {
        WoolMarket m = new WoolMarket();
        due.is("faulty", Due.read(m, "uncle truth 9 wish 9 web 9 coins 9; weft 9; fray 9; toll 9; slip 99; !"), -169);
        due.is("the next one", Due.read(m, "wife;"), 1);
        int[] want = {1, 0, 0, 0, 50, 1};
        for (int what = 0; what < want.length; what++) {
            due.is("of the wife, " + what, m.of(0, what), want[what]);
        }
        int[] laws = {2, 1, 0, 20};
        for (int law = 0; law < 4; law++) {
            due.is("law " + law, m.lawOf(law), laws[law]);
        }
    }

    private static void promise3_noByteOfAnEarlierTapeIsRead(Due due) {
        WoolMarket m = Due.told("uncle coins 999; uncle;");
        due.is("a NUMBER at the end", Due.read(m, "uncle coins 9"), -113);
        due.is("a NAME at the end", Due.read(m, "uncle coins"), -111);
        due.is("a blank at the end", Due.read(m, "uncle "), -106);
        due.is("a part of it", Due.read(m, "uncle;"), 1);
    }

    private static void promise3_eightPeopleAtMost(Due due) {
        people(due, "uncle;".repeat(8), 8);
        people(due, "uncle;".repeat(8) + "toll 3;", 8);
        due.is("the eighth", Due.told("uncle;".repeat(7) + "clerk truth 5;").of(7, 1), 5);
    }

    private static void promise3_theNameOfANinthIsTheFault(Due due) {
        fault(due, "uncle;".repeat(8) + "clerk;", 48);
        fault(due, "uncle;".repeat(8) + "toll 3; wife truth 100;", 56);
        fault(due, "uncle;".repeat(8) + "wives;", 48);
    }

    private static void promise3_aNumberIsNoNameAndNoOtherByte(Due due) {
        fault(due, "slip a;", 5);
        fault(due, "slip aa;", 5);
        fault(due, "slip :;", 5);
        fault(due, "uncle coins b;", 12);
        fault(due, "uncle coins bb;", 12);
        fault(due, "uncle coins +5;", 12);
    }

    private static void promise3_eachLetterOfANameCounts(Due due) {
        for (String name : new String[] {"buyer", "wife", "magistrate", "knitter", "clerk", "uncle"}) {
            for (int i = 0; i < name.length(); i++) {
                fault(due, name.substring(0, i) + "q" + name.substring(i + 1) + ";", 0);
            }
        }
        for (String name : new String[] {"weft", "fray", "toll", "slip"}) {
            for (int i = 0; i < name.length(); i++) {
                fault(due, name.substring(0, i) + "q" + name.substring(i + 1) + " 5;", 0);
            }
        }
        for (String name : new String[] {"truth", "wish", "web", "coins"}) {
            for (int i = 0; i < name.length(); i++) {
                fault(due, "uncle " + name.substring(0, i) + "q" + name.substring(i + 1) + " 5;", 6);
            }
        }
    }

    private static void promise3_namesGoAsLongAsTheyGo(Due due) {
        fault(due, "uncles;", 0);
        fault(due, "uncl;", 0);
        fault(due, "unclewife;", 0);
        fault(due, "uncleweb 5;", 0);
        fault(due, "un cle;", 0);
        fault(due, "uncle webs 5;", 6);
        fault(due, "uncle we b 5;", 6);
        fault(due, "tol 5;", 0);
        fault(due, "tolls 5;", 0);
    }

    private static void promise3_namesAreOfLettersAToZ(Due due) {
        fault(due, "Uncle;", 0);
        fault(due, "uncle`;", 5);
        fault(due, "uncle{;", 5);
        fault(due, "unclea;", 0);
        fault(due, "unclez;", 0);
        fault(due, "uncl\u00e5;", 0);
    }

    private static void promise3_numbersAreOfDigits0To9(Due due) {
        fault(due, "toll 5/;", 6);
        fault(due, "toll 5:;", 6);
        fault(due, "toll /;", 5);
        fault(due, "toll :;", 5);
        due.is("0 and 9", Due.told("slip 09;").lawOf(3), 9);
        due.is("9 and 0", Due.told("slip 90;").lawOf(3), 90);
    }

    private static void promise3_blanksStandAsOneLikes(Due due) {
        due.is("many", Due.told("  uncle   truth  7   coins   8  ;  toll  3  ;  ").of(0, 4), 8);
        due.is("none", Due.told("uncle;toll 3;wife truth 7;").of(1, 1), 7);
        due.is("a NAME ends where a NUMBER begins", Due.told("uncle truth7wish8;").of(0, 2), 8);
    }

    private static void promise3_no32IsNoBlank(Due due) {
        fault(due, "uncle\t;", 5);
        fault(due, "uncle\n;", 5);
        fault(due, "uncle\u0000;", 5);
        fault(due, "uncle\u001f;", 5);
        fault(due, "uncle!;", 5);
        fault(due, "uncle\u00a0;", 5);
    }

    private static void promise3_eachTraitOnceAndInItsOrder(Due due) {
        people(due, "uncle truth 1 wish 2 web 3 coins 4;", 1);
        String[] names = {"truth", "wish", "web", "coins"};
        for (int i = 0; i < 4; i++) {
            for (int j = 0; j < 4; j++) {
                String first = "uncle " + names[i] + " 5 ";
                if (j > i) {
                    people(due, first + names[j] + " 5;", 1);
                } else {
                    fault(due, first + names[j] + " 5;", first.length());
                }
            }
        }
    }

    private static void promise3_aLawHasJustOneNumber(Due due) {
        fault(due, "slip;", 4);
        fault(due, "slip five;", 5);
        fault(due, "slip 5 web 5;", 7);
        fault(due, "slip 5;;", 7);
    }

    private static void promise3_noTraitStandsByItself(Due due) {
        fault(due, "truth 5;", 0);
        fault(due, "toll 5; coins 5;", 8);
        fault(due, "uncle; web 5;", 7);
        fault(due, "uncle 5;", 6);
        fault(due, "uncle weft 5;", 6);
    }

    private static void promise3_whatItDoesntTellIsAsAtFirst(Due due) {
        WoolMarket m = Due.told("buyer truth 9;buyer truth 9;weft 9;fray 9;toll 9;slip 99;");
        m.days(3);
        due.is("the chest before", m.state(1), 54);
        due.is("market", Due.read(m, "wife;"), 1);
        due.is("DAY", m.state(0), 0);
        due.is("CHEST", m.state(1), 0);
        int[] laws = {2, 1, 0, 20};
        for (int law = 0; law < 4; law++) {
            due.is("law " + law, m.lawOf(law), laws[law]);
        }
        due.is("the second is gone", m.of(1, 0), -1);
        due.is("nobody's coins count", m.state(2), 50);
    }

    private static void promise3_zStays(Due due) {
        WoolMarket m = new WoolMarket();
        m.seed(-77);
        Due.read(m, "wife;");
        due.is("z", m.seed(1), -77);
    }

    private static void promise3_thereAreNoRowsThen(Due due) {
        WoolMarket m = Twins.busy();
        due.is("rows before", m.many(4), 4);
        due.is("market", Due.read(m, "wife;"), 1);
        due.is("rows", m.many(4), 0);
        due.is("row", m.row(0, 0), -9);
        due.is("judge", m.judge(0), 0);
    }

    private static void promise3_theTapeIsUsedUp(Due due) {
        WoolMarket m = new WoolMarket();
        due.is("market", Due.read(m, "wife;"), 1);
        due.is("bytes", m.many(5), 0);
        due.is("market", m.market(), 0);
    }

    private static void promise3_aFaultUsesUpTheTapeToo(Due due) {
        WoolMarket m = new WoolMarket();
        due.is("market", Due.read(m, "wife"), -104);
        due.is("bytes", m.many(5), 0);
        due.is("market", m.market(), 0);
    }

    private static void promise3_aFaultChangesNothingElse(Due due) {
        for (String text : new String[] {"!", "uncle web 5; toll 7; fray 10;", "uncle;".repeat(9), "clerk truth 9"}) {
            WoolMarket asked = Twins.busy();
            due.is("below 0", Math.max(-1, Due.read(asked, text)), -1);
            new Twins(due).areAlike("market() of " + text, asked, Twins.busy());
        }
    }
}
