/** Edges of promises 18 to 25: what is tried, by days and by what one might be. */
final class TriedEdges {
    private TriedEdges() {
    }

    /** Eight who are all alike have the same answer, the first and the last one too. */
    private static void onlyOfThoseWhoAreThere(Due due, int answer, String name, long... behind) {
        WoolMarket m = Due.told("buyer;".repeat(8));
        due.is("the first", Twins.call(m, name, with(0, behind)), answer);
        due.is("the last of eight", Twins.call(m, name, with(7, behind)), answer);
        due.is("a ninth", Twins.call(m, name, with(8, behind)), -1);
        new Twins(due).outside(0, Twins.PEOPLE - 1, name, with(Twins.V, behind));
    }

    private static long[] with(long first, long[] behind) {
        long[] all = new long[behind.length + 1];
        all[0] = first;
        System.arraycopy(behind, 0, all, 1, behind.length);
        return all;
    }

    private static void promise18_nIs0To60(Due due) {
        WoolMarket m = Due.told("buyer coins 61; buyer truth 1;");
        due.is("now", m.purse(0, 0), 61);
        due.is("behind one DAY", m.purse(0, 1), 60);
        due.is("behind 60 DAYS", m.purse(0, 60), 1);
        new Twins(due).outside(0, 60, "purse", 1, Twins.V);
    }

    private static void promise18_onlyOfThoseWhoAreThere(Due due) {
        onlyOfThoseWhoAreThere(due, 50, "purse", 3);
    }

    private static void promise18_nothingChanges(Due due) {
        new Twins(due).answer(Twins.busy().purse(1, 60), "purse", 1, 60);
    }

    private static void promise19_by0To60Days(Due due) {
        WoolMarket m = Due.told("buyer;buyer web 1;buyer web 60;buyer web 61;");
        due.is("now", m.steps(0), 0);
        due.is("behind one DAY", m.steps(1), 1);
        due.is("behind the last", m.steps(2), 60);
        due.is("not by then", m.steps(3), -3);
    }

    private static void promise19_neverIsNotByThen(Due due) {
        due.is("without FRAY", Due.told("buyer web 1;fray 0;").steps(0), -3);
    }

    /** Her web is mended: she stands on the steps now, and never again. */
    private static void promise19_behindTheFewest(Due due) {
        due.is("a wife", Due.told("wife;fray 0;").steps(0), 0);
        due.is("a buyer, who stays there", Due.told("buyer web 3;").steps(0), 3);
    }

    private static void promise19_onlyOfThoseWhoAreThere(Due due) {
        onlyOfThoseWhoAreThere(due, 0, "steps");
    }

    private static void promise19_nothingChanges(Due due) {
        new Twins(due).answer(Twins.busy().steps(4), "steps", 4);
    }

    private static void promise20_nobodyIsAllAtOnce(Due due) {
        due.is("nobody", new WoolMarket().all(), 0);
    }

    private static void promise20_by0To60Days(Due due) {
        due.is("now", Due.told("buyer;wife;").all(), 0);
        due.is("behind one DAY", Due.told("buyer;buyer web 1;").all(), 1);
        due.is("behind the last", Due.told("buyer web 60;buyer web 3;").all(), 60);
        due.is("not by then", Due.told("buyer web 3;buyer web 61;").all(), -3);
        due.is("eight", Due.told("buyer web 5;".repeat(7) + "buyer web 6;").all(), 6);
    }

    /** A wife stands there first, and when the buyer comes she does no more. */
    private static void promise20_allStandThereTogether(Due due) {
        due.is("never together", Due.told("wife;buyer web 1;").all(), -3);
    }

    private static void promise20_nothingChanges(Due due) {
        new Twins(due).answer(Twins.busy().all(), "all");
    }

    private static void promise21_by0To60Days(Due due) {
        String second = "buyer truth 1 coins 0;buyer coins 0;";
        due.is("now", Due.told("buyer coins 0;" + second).poor(0), 0);
        due.is("behind one DAY", Due.told("buyer coins 1;" + second).poor(0), 1);
        due.is("behind the last", Due.told("buyer coins 60;" + second).poor(0), 60);
        due.is("not by then", Due.told("buyer coins 61;" + second).poor(0), -3);
    }

    private static void promise21_neverIsNotByThen(Due due) {
        due.is("who pays nothing", Due.told("buyer coins 1;buyer;").poor(0), -3);
    }

    /** The first one has none, then is paid. */
    private static void promise21_behindTheFewest(Due due) {
        due.is("not the last", Due.told("buyer truth 9 coins 0;buyer;").poor(0), 0);
    }

    private static void promise21_onlyOfThoseWhoAreThere(Due due) {
        onlyOfThoseWhoAreThere(due, -3, "poor");
    }

    private static void promise21_nothingChanges(Due due) {
        new Twins(due).answer(Twins.busy().poor(0), "poor", 0);
    }

    private static void promise22_nIs1To20(Due due) {
        String text = "clerk truth 72 wish 84 web 53 coins 948;knitter truth 98 wish 53 web 24 coins 981;"
            + "wife truth 27 wish 75 web 92 coins 126;weft 0;toll 1;";
        int[][] want = {{1, 56}, {2, 58}, {19, 74}, {20, 76}};
        for (int[] w : want) {
            WoolMarket m = Due.told(text);
            due.is("by " + w[0], m.webFor(0, w[0]), w[1]);
            int most = pursesMost(m, w[0]);
            due.is("with a web of " + w[1], purseWithWeb(m, w[1], w[0]), most);
            due.is("with one of 1 less it isn't most", purseWithWeb(m, w[1] - 1, w[0]) < most ? 1 : 0, 1);
        }
        new Twins(due).outside(1, 20, "webFor", 1, Twins.V);
    }

    private static int purseWithWeb(WoolMarket m, int web, int n) {
        m.change(0, 3, web);
        return m.purse(0, n);
    }

    private static int pursesMost(WoolMarket m, int n) {
        int most = 0;
        for (int web = 0; web <= 99; web++) {
            most = Math.max(most, purseWithWeb(m, web, n));
        }
        return most;
    }

    /** Through a web of w the first one offers 99 less w. */
    private static void promise22_theThickestWeb(Due due) {
        due.is("99", Due.told("buyer; buyer truth 99;").webFor(0, 1), 99);
    }

    /** Through a web of w it offers w, its wish being 99. */
    private static void promise22_theThinnestWeb(Due due) {
        due.is("0", Due.told("buyer wish 99 web 50; buyer;").webFor(0, 1), 0);
    }

    /** With 50 for the other one, a web of 98 makes it 50 by 99, cut: as much as one of 99. */
    private static void promise22_ofSeveralTheLeast(Due due) {
        due.is("two", Due.told("buyer web 99; buyer truth 50;").webFor(0, 1), 98);
        due.is("all", Due.told("uncle web 77;").webFor(0, 20), 0);
    }

    private static void promise22_onlyOfThoseWhoAreThere(Due due) {
        onlyOfThoseWhoAreThere(due, 0, "webFor", 2);
    }

    private static void promise22_nothingChanges(Due due) {
        new Twins(due).answer(Twins.busy().webFor(1, 20), "webFor", 1, 20);
    }

    private static void promise23_nIs1To20(Due due) {
        WoolMarket m = Due.told("buyer truth 80 wish 0 web 26 coins 0;wife truth 29 wish 34 web 34 coins 753;"
            + "buyer truth 90 wish 77 web 39 coins 377;weft 1;fray 3;toll 1;");
        int[][] want = {{1, 0}, {2, 4}, {19, 4}, {20, 1}};
        for (int[] w : want) {
            due.is("by " + w[0], m.kindFor(0, w[0]), w[1]);
        }
        new Twins(due).outside(1, 20, "kindFor", 1, Twins.V);
    }

    /** Of one worth 4 they offer 4, 2, 9, 2, 4 and 6 below 0. */
    private static void promise23_theLastKind(Due due) {
        due.is("an uncle", Due.told("buyer; buyer truth 4;").kindFor(0, 1), 5);
    }

    /** Of one worth 0 a buyer, a wife, a knitter and an uncle offer 0 or less. */
    private static void promise23_ofSeveralTheLeast(Due due) {
        due.is("a buyer", Due.told("uncle; buyer;").kindFor(0, 1), 0);
        due.is("alone", Due.told("uncle;").kindFor(0, 20), 0);
        // Of one worth 2: 2, 0, 7, 2 below 0, 3, and 8 below 0.
        due.is("a wife", Due.told("uncle; buyer truth 2;").kindFor(0, 1), 1);
    }

    private static void promise23_onlyOfThoseWhoAreThere(Due due) {
        onlyOfThoseWhoAreThere(due, 0, "kindFor", 2);
    }

    private static void promise23_nothingChanges(Due due) {
        new Twins(due).answer(Twins.busy().kindFor(1, 20), "kindFor", 1, 20);
    }

    private static void promise24_nIs1To20(Due due) {
        WoolMarket m = Due.told("buyer coins 999; buyer truth 9;");
        due.is("the least", m.wishFor(0, 1, 990), 0);
        due.is("the least, one more", m.wishFor(0, 1, 991), -3);
        due.is("the most", m.wishFor(0, 20, 819), 0);
        due.is("the most, one more", m.wishFor(0, 20, 820), -3);
        new Twins(due).outside(1, 20, "wishFor", 1, Twins.V, 5);
    }

    private static void promise24_vIs0To9999(Due due) {
        WoolMarket m = Due.told("buyer coins 0;");
        due.is("the least", m.wishFor(0, 1, 0), 0);
        due.is("more than there is", m.wishFor(0, 1, 1), -3);
        m.change(0, 4, 9999);
        due.is("the most", m.wishFor(0, 1, 9999), 0);
        m.change(0, 4, 9998);
        due.is("one less than the most", m.wishFor(0, 1, 9999), -3);
        new Twins(due).outside(0, 9999, "wishFor", 1, 2, Twins.V);
    }

    private static void promise24_vOrMore(Due due) {
        WoolMarket m = Due.told("buyer coins 7;");
        due.is("more", m.wishFor(0, 1, 6), 0);
        due.is("as much", m.wishFor(0, 1, 7), 0);
        due.is("less", m.wishFor(0, 1, 8), -3);
    }

    /** What a wish does in six days with tolls: 98 leaves it less than 5, 99 just 5. */
    private static void promise24_theGreatestWish(Due due) {
        WoolMarket m = Due.told("magistrate truth 11 wish 24 web 91 coins 57;knitter truth 31 wish 15 web 37 coins 15;"
            + "clerk truth 44 wish 80 web 52 coins 34;weft 1;fray 2;toll 8;");
        due.is("99", m.wishFor(0, 6, 5), 99);
        due.is("none", m.wishFor(0, 6, 6), -3);
        for (int wish = 0; wish <= 99; wish++) {
            m.mind(0, 2, wish);
            due.is("its PURSE with a wish of " + wish, m.purse(0, 6) >= 5 ? 1 : 0, wish == 99 ? 1 : 0);
        }
    }

    private static void promise24_onlyOfThoseWhoAreThere(Due due) {
        onlyOfThoseWhoAreThere(due, 0, "wishFor", 2, 3);
    }

    private static void promise24_nothingChanges(Due due) {
        Twins twins = new Twins(due);
        twins.answer(Twins.busy().wishFor(1, 20, 1), "wishFor", 1, 20, 1);
        twins.answer(-3, "wishFor", 1, 1, 9999);
    }

    private static void promise25_nIs1To20(Due due) {
        WoolMarket m = Due.told("wife truth 99 wish 36 web 46 coins 650;magistrate truth 17 wish 4 web 23 coins 699;"
            + "knitter truth 17 wish 20 web 80 coins 202;weft 9;fray 3;toll 4;");
        int[][] want = {{1, -3}, {2, 1}, {19, 2}, {20, 1}};
        for (int[] w : want) {
            due.is("by " + w[0], m.changeFor(0, w[0]), w[1]);
        }
        new Twins(due).outside(1, 20, "changeFor", 1, Twins.V);
    }

    /** What it pays is what the one behind it is worth: in the place of 7 it is the first one, in that of 0 the second. */
    private static void promise25_theFirstAndTheLast(Due due) {
        String nine = "buyer truth 9;";
        due.is("the last", Due.told("buyer truth 0;" + nine.repeat(7)).changeFor(3, 1), 7);
        due.is("the first", Due.told(nine + "buyer truth 0;" + nine.repeat(6)).changeFor(3, 1), 0);
    }

    private static void promise25_noMoreIsWithNobody(Due due) {
        due.is("three alike", Due.told("buyer truth 7;".repeat(3)).changeFor(1, 3), -3);
        due.is("two", Due.told("buyer; buyer truth 40;").changeFor(0, 1), -3);
        due.is("alone", Due.told("buyer;").changeFor(0, 20), -3);
    }

    /** It would pay 1 less. */
    private static void promise25_oneMoreIsMore(Due due) {
        due.is("one more", Due.told("buyer; buyer truth 10; buyer truth 9;").changeFor(0, 1), 1);
    }

    /** In the places of 1 and 2 it would pay nothing, in its own 20. */
    private static void promise25_ofSeveralTheLeast(Due due) {
        due.is("two", Due.told("buyer truth 1; buyer truth 20; buyer; buyer;").changeFor(0, 1), 1);
    }

    private static void promise25_onlyOfThoseWhoAreThere(Due due) {
        onlyOfThoseWhoAreThere(due, -3, "changeFor", 2);
    }

    private static void promise25_nothingChanges(Due due) {
        new Twins(due).answer(Twins.busy().changeFor(1, 20), "changeFor", 1, 20);
    }
}
