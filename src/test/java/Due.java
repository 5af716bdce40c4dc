/** Counts answers that are not the ones due, and tells of them. */
final class Due {
    private final String test;
    private int asked;
    private int wrong;

    Due(String test) {
        this.test = test;
    }

    void is(String call, long got, long want) {
        asked++;
        if (got != want) {
            wrong++;
            System.out.println(test + ": " + call + " answered " + got + ", due is " + want);
        }
    }

    /** A test that asked nothing holds nothing. */
    boolean isMet() {
        return wrong == 0 && asked > 0;
    }

    void end() {
        System.out.println(asked + " answers asked, " + wrong + " wrong");
        if (!isMet()) {
            System.exit(1);
        }
    }

    /** Puts a text on THE TAPE, eight bytes at a time. */
    static void feedText(WoolMarket market, String text) {
        for (int from = 0; from < text.length(); from += 8) {
            int n = Math.min(8, text.length() - from);
            long eight = 0;
            for (int i = 0; i < n; i++) {
                eight |= (text.charAt(from + i) & 255L) << (8 * i);
            }
            market.feed(eight, n);
        }
    }

    static int read(WoolMarket market, String text) {
        feedText(market, text);
        return market.market();
    }

    static WoolMarket told(String text) {
        WoolMarket market = new WoolMarket();
        if (read(market, text) < 0) {
            throw new IllegalStateException("the test's text has a fault: " + text);
        }
        return market;
    }
}
