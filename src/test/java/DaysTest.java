/** Promises 13 to 16: DAYS, z, DAYS BY DRAWS, LUCKY. Edges: DaysEdges. */
public final class DaysTest {
    private static final Due due = new Due("DaysTest");

    public static void main(String[] args) {
        paysInTheRound();
        paysWithToll();
        websFray();
        promise14();
        promise15();
        promise16();
        due.end();
    }

    private static void paysInTheRound() {
        WoolMarket m = Due.told("buyer truth 30; buyer truth 20;");
        due.is("13 coins of all", m.days(1), 100);
        due.is("13 first", m.of(0, 4), 60);
        due.is("13 second", m.of(1, 4), 40);
        due.is("13 day", m.state(0), 1);
        due.is("13 two days", m.days(2), 100);
        due.is("13 first", m.of(0, 4), 80);
        due.is("13 day", m.state(0), 3);
    }

    private static void paysWithToll() {
        WoolMarket m = Due.told("buyer truth 30; buyer truth 20; toll 9;");
        due.is("13 toll", m.days(1), 82);
        due.is("13 toll, first", m.of(0, 4), 51);
        due.is("13 toll, second", m.of(1, 4), 31);
        due.is("13 chest", m.state(1), 18);
        due.is("13 toll, two more days", m.days(2), 46);
        due.is("13 chest", m.state(1), 54);
    }

    private static void websFray() {
        WoolMarket m = Due.told("wife web 50; knitter web 50; buyer web 50; magistrate web 50; clerk web 50; uncle web 50;");
        m.days(1);
        int[] first = {51, 53, 49, 48, 48, 40};
        for (int i = 0; i < 6; i++) {
            due.is("13 web of " + i, m.of(i, 3), first[i]);
        }
        m.days(2);
        int[] third = {53, 59, 47, 44, 46, 20};
        for (int i = 0; i < 6; i++) {
            due.is("13 web later of " + i, m.of(i, 3), third[i]);
        }
    }

    private static void promise14() {
        WoolMarket m = new WoolMarket();
        due.is("14 first", m.seed(-5), 1);
        due.is("14 next", m.seed(1234), -5);
        due.is("14 next", m.seed(0), 1234);
    }

    private static void promise15() {
        // From 1, 16838 is drawn and then 38526: of three the one numbered 2, and 26 of a hundred.
        WoolMarket m = Due.told("buyer web 50; buyer web 50; buyer web 50; slip 26;");
        due.is("15 coins", m.day(), 150);
        due.is("15 no slip", m.of(2, 3), 49);
        due.is("15 z behind two draws", m.seed(1), -1770082073);
        m.set(3, 27);
        m.day();
        due.is("15 slip", m.of(2, 3), 0);
        due.is("15 no other slips", m.of(0, 3), 48);
        due.is("15 no other slips", m.of(1, 3), 48);
        due.is("15 day", m.state(0), 2);
    }

    private static int next(int z) {
        return z * 1103515245 + 12345;
    }

    /** Person 1 sees nothing through its web, and pays all that it has where it slips. */
    private static void promise16() {
        for (int slip = 0; slip < 100; slip += 33) {
            WoolMarket m = Due.told("buyer truth 90; buyer web 99;");
            m.set(3, slip);
            m.seed(12345 + slip);
            int z = 12345 + slip;
            int slips = 0;
            for (int n = 1; n <= 30; n++) {
                z = next(z);
                int who = (z >>> 16) % 2;
                z = next(z);
                slips += who == 1 && (z >>> 16) % 100 < slip ? 1 : 0;
                due.is("16 lucky in " + n, m.lucky(0, n), slips);
                due.is("16 never lucky", m.lucky(1, n), 0);
            }
        }
        // It pays 9 the first day, and 9 the next: without slips it has as much as its PURSE by 1, and more than by 2.
        WoolMarket pays = Due.told("buyer; buyer truth 9 web 99; slip 0;");
        due.is("16 more than by one day, not by two", pays.lucky(0, 30), 0);
    }
}
