/** Promises 13 to 16: DAYS, z, DAYS BY DRAWS, LUCKY. */
public final class DaysTest {
    private static final Due due = new Due("DaysTest");

    public static void main(String[] args) {
        paysInTheRound();
        paysWithToll();
        paysAtOnce();
        heldNumbers();
        websFray();
        promise13Refusals();
        promise14();
        promise15();
        promise16();
        due.end();
    }

    private static void paysInTheRound() {
        WoolMarket m = Due.told("buyer truth 30; buyer truth 20;");
        due.is("13 coins of all", m.days(1), 100);
        due.is("13 first", m.of(0, 4), 60);
        due.is("13 second", m.of(1, 4), 40);
        due.is("13 day", m.state(0), 1);
        due.is("13 two days", m.days(2), 100);
        due.is("13 first", m.of(0, 4), 80);
        due.is("13 day", m.state(0), 3);
        WoolMarket alone = Due.told("buyer truth 30 wish 9 web 9;");
        due.is("13 alone", alone.days(4), 50);
        due.is("13 alone frays", alone.of(0, 3), 5);
        WoolMarket nobody = new WoolMarket();
        due.is("13 nobody", nobody.days(60), 0);
        due.is("13 nobody's day", nobody.state(0), 60);
    }

    private static void paysWithToll() {
        WoolMarket m = Due.told("buyer truth 30; buyer truth 20; toll 9;");
        due.is("13 toll", m.days(1), 82);
        due.is("13 toll, first", m.of(0, 4), 51);
        due.is("13 toll, second", m.of(1, 4), 31);
        due.is("13 chest", m.state(1), 18);
        WoolMarket little = Due.told("buyer truth 3; buyer truth 0; toll 9;");
        due.is("13 toll above what is paid", little.days(1), 97);
        due.is("13 chest of it", little.state(1), 3);
        due.is("13 nothing comes", little.of(0, 4), 50);
    }

    private static void paysAtOnce() {
        WoolMarket m = Due.told("buyer truth 1; buyer truth 40 coins 0; buyer truth 35 coins 0;");
        m.days(1);
        due.is("13 first pays 40, gets 1", m.of(0, 4), 11);
        due.is("13 second gets 40, pays 35", m.of(1, 4), 5);
        due.is("13 third gets 35, pays 1", m.of(2, 4), 34);
        WoolMarket poor = Due.told("buyer coins 3; buyer truth 40 coins 0;");
        poor.days(1);
        due.is("13 no more than it has", poor.of(1, 4), 3);
        WoolMarket below = Due.told("uncle truth 50; uncle truth 5;");
        below.days(1);
        due.is("13 offers below 0 pay nothing", below.of(0, 4), 90);
    }

    private static void heldNumbers() {
        WoolMarket m = Due.told("buyer truth 99; buyer truth 99; toll 9;");
        m.change(1, 4, 9990);
        m.change(0, 4, 99);
        // 0 pays 99: 90 come, 9990 and 90 are held to 9999; then 1 pays 99.
        due.is("13 held coins", m.days(1), 9900 + 90);
        for (int i = 2; i < 8; i++) {
            m.person(0, 99, 0, 0);
        }
        int days = 1;
        long paid = 18;
        while (paid < 99999 && days < 2000) {
            for (int i = 0; i < 8; i++) {
                m.change(i, 4, 9999);
            }
            m.days(60);
            paid += 60 * 8 * 9;
            days += 60;
            due.is("13 chest", m.state(1), Math.min(99999, paid));
        }
        due.is("13 held chest", m.state(1), 99999);
    }

    private static void websFray() {
        WoolMarket m = Due.told("wife web 98; knitter web 97; buyer web 1; magistrate web 1; clerk web 9; uncle web 10; fray 1;");
        m.days(1);
        int[] first = {99, 99, 0, 0, 7, 0};
        for (int i = 0; i < 6; i++) {
            due.is("13 web of " + i, m.of(i, 3), first[i]);
        }
        m.days(1);
        int[] second = {99, 99, 0, 0, 7, 0};
        for (int i = 0; i < 6; i++) {
            due.is("13 web later of " + i, m.of(i, 3), second[i]);
        }
        m.days(1);
        due.is("13 clerk's web in an even day", m.of(4, 3), 5);
        m.change(0, 3, 0);
        m.days(1);
        due.is("13 mended from 0", m.of(0, 3), 1);
    }

    private static void promise13Refusals() {
        WoolMarket m = Due.told("buyer truth 30; buyer truth 20;");
        due.is("13 none", m.days(0), -1);
        due.is("13 below", m.days(-1), -1);
        due.is("13 above", m.days(61), -1);
        due.is("13 unchanged", m.state(0), 0);
        due.is("13 most", m.days(60), 100);
    }

    private static void promise14() {
        WoolMarket m = new WoolMarket();
        due.is("14 first", m.seed(-5), 1);
        due.is("14 below 0", m.seed(Integer.MIN_VALUE), -5);
        due.is("14 least", m.seed(0), Integer.MIN_VALUE);
    }

    private static void promise15() {
        // From 1, 16838 is drawn and then 38526: of three the one numbered 2, and 26 of a hundred.
        WoolMarket m = Due.told("buyer web 50; buyer web 50; buyer web 50; slip 26;");
        due.is("15 coins", m.day(), 150);
        due.is("15 no slip", m.of(2, 3), 49);
        due.is("15 z behind two draws", m.seed(1), -1770082073);
        m.set(3, 27);
        m.day();
        due.is("15 slip", m.of(2, 3), 0);
        due.is("15 no other slips", m.of(0, 3), 48);
        due.is("15 no other slips", m.of(1, 3), 48);
        due.is("15 day", m.state(0), 2);
        WoolMarket nobody = new WoolMarket();
        due.is("15 nobody", nobody.day(), 0);
        due.is("15 nobody's day", nobody.state(0), 1);
        due.is("15 no draws", nobody.seed(3), 1);
        WoolMarket one = Due.told("buyer web 50; slip 99; fray 0;");
        due.is("15 alone", one.day(), 50);
        due.is("15 alone it slips", one.of(0, 3), 0);
        due.is("15 z behind two draws", one.seed(1), -1770082073);
        WoolMarket slips = Due.told("buyer truth 90; buyer web 99; slip 99;");
        slips.seed(5);
        int z = next(5);
        int who = (z >>> 16) % 2;
        boolean slipsNow = (next(z) >>> 16) % 100 < 99 && who == 1;
        slips.day();
        due.is("15 slips before it pays", slips.of(0, 4), slipsNow ? 100 : 50);
    }

    private static int next(int z) {
        return z * 1103515245 + 12345;
    }

    /** Person 1 sees nothing through its web, and pays all that it has where it slips. */
    private static void promise16() {
        for (int slip = 0; slip < 100; slip += 33) {
            WoolMarket m = Due.told("buyer truth 90; buyer web 99;");
            m.set(3, slip);
            m.seed(12345 + slip);
            int z = 12345 + slip;
            int slips = 0;
            for (int n = 1; n <= 30; n++) {
                z = next(z);
                int who = (z >>> 16) % 2;
                z = next(z);
                slips += who == 1 && (z >>> 16) % 100 < slip ? 1 : 0;
                due.is("16 lucky in " + n, m.lucky(0, n), slips);
                due.is("16 never lucky", m.lucky(1, n), 0);
            }
            due.is("16 z stays", m.seed(1), 12345 + slip);
            due.is("16 web stays", m.of(1, 3), 99);
            due.is("16 day stays", m.state(0), 0);
        }
        // It pays 9 the first day, and 9 the next: without slips it has as much as its PURSE by 1, and more than by 2.
        WoolMarket pays = Due.told("buyer; buyer truth 9 web 99; slip 0;");
        due.is("16 more than by one day, not by two", pays.lucky(0, 30), 0);
        WoolMarket m = Due.told("buyer; buyer;");
        due.is("16 no such one", m.lucky(2, 1), -1);
        due.is("16 no such one", m.lucky(-1, 1), -1);
        due.is("16 none", m.lucky(0, 0), -1);
        due.is("16 above", m.lucky(0, 31), -1);
    }
}
