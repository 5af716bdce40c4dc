/** A market of people who see through a grey web: see README.md, and DOC.md for what each call promises. */
public final class WoolMarket {
    public static final int BAD = -1, FULL = -2, NONE = -3;

    private static final int NO_ROW = -9, NOTHING_THERE = -11, PLACE_OUTSIDE = -12;
    private static final int OTHER_SORT = -13, SIZE_BELOW_0 = -14, PARTED_BY_0 = -15, TEXT_FAULT = -100;

    private static final int BUYER = 0, WIFE = 1, MAGISTRATE = 2, KNITTER = 3, CLERK = 4, UNCLE = 5;
    private static final int KIND = 0, TRUTH = 1, WISH = 2, WEB = 3, COINS = 4, TRAITS = 5;
    private static final int WEFT = 0, FRAY = 1, TOLL = 2, SLIP = 3, LAWS = 4;
    private static final int[] LAW_AT_FIRST = {2, 1, 0, 20};
    private static final int[] LAW_MOST = {9, 9, 9, 99};
    private static final int[] TRAIT_MOST = {5, 99, 99, 99, 9999};

    private static final int PEOPLE_MOST = 8, PERCENT_MOST = 99, COINS_AT_FIRST = 50, COINS_MOST = 9999;
    private static final int CHEST_MOST = 99999, COINS_TOLD_MOST = 999, DAYS_MOST = 60, ASKED_DAYS_MOST = 20;
    private static final int TAPE_MOST = 200, TRACE_MOST = 30, ROWS_MOST = 10, ROW_PARTS = 3;
    private static final int PLACES = 4, SHEET_MOST = 40, BYTES = 0, SHORTS = 1, LONGS = 3, MISSING = -1;
    private static final int HOLDS_NOTHING = 0, HOLDS_PERSON = 1, HOLDS_ROW = 2;
    private static final int STANDS_ON_STEPS = 0, ALL_STAND_ON_STEPS = 1, HAS_NO_COINS = 2;

    private final Market now = new Market();
    private final Market tried = new Market();
    private final Market kept = new Market();
    private boolean isKept;
    private final Tape tape = new Tape();
    private final int[][] rows = new int[ROWS_MOST][ROW_PARTS];
    private int rowCount;
    private final Sheet[] sheets = new Sheet[PLACES];
    private final Shelf[] shelves = new Shelf[PLACES];
    private final Thing thing = new Thing();
    private final int[] worthOfSet = new int[1 << PEOPLE_MOST];

    public WoolMarket() {
        for (int i = 0; i < PLACES; i++) {
            sheets[i] = new Sheet();
            shelves[i] = new Shelf();
        }
    }

    public int feed(long eight, int n) {
        if (!isWithin(n, 1, 8)) {
            return BAD;
        }
        if (tape.size > TAPE_MOST - n) {
            return FULL;
        }
        tape.takeBytes(eight, n);
        return tape.size;
    }

    public int market() {
        int fault = tape.readText();
        tape.size = 0;
        if (fault >= 0) {
            return TEXT_FAULT - fault;
        }
        int z = now.z;
        now.copyFrom(tape.told);
        now.z = z;
        rowCount = 0;
        return now.count;
    }

    public int set(int law, int v) {
        if (!isLaw(law) || !isWithin(v, 0, LAW_MOST[law])) {
            return BAD;
        }
        int before = now.laws[law];
        now.laws[law] = v;
        return before;
    }

    public int lawOf(int law) {
        return isLaw(law) ? now.laws[law] : BAD;
    }

    public int person(int kind, int truth, int wish, int web) {
        if (!isTrait(KIND, kind) || !isTrait(TRUTH, truth) || !isTrait(WISH, wish) || !isTrait(WEB, web)) {
            return BAD;
        }
        if (now.isFull()) {
            return FULL;
        }
        int number = now.addPerson(kind);
        now.has[TRUTH][number] = truth;
        now.has[WISH][number] = wish;
        now.has[WEB][number] = web;
        return number;
    }

    public int of(int person, int what) {
        if (!now.exists(person) || !isWithin(what, 0, TRAITS)) {
            return BAD;
        }
        if (what < TRAITS) {
            return now.has[what][person];
        }
        return now.isOnSteps(person) ? 1 : 0;
    }

    public int does(int person, int what) {
        if (!now.exists(person) || !isWithin(what, 0, 1)) {
            return BAD;
        }
        return 1000 + (what == 0 ? now.wears(person) : now.frays(person));
    }

    public int looks(int person, int other, int what) {
        if (!now.areTwo(person, other) || !isWithin(what, 0, 1)) {
            return BAD;
        }
        return 1000 + (what == 0 ? now.sees(person, other) : now.offers(person, other));
    }

    public int mind(int person, int kind, int wish) {
        if (!now.exists(person) || !isTrait(KIND, kind) || !isTrait(WISH, wish)) {
            return BAD;
        }
        int before = now.has[KIND][person];
        now.has[KIND][person] = kind;
        now.has[WISH][person] = wish;
        return before;
    }

    public int change(int person, int what, int v) {
        boolean isChangeable = what == TRUTH || what == WEB || what == COINS;
        if (!now.exists(person) || !isChangeable || !isTrait(what, v)) {
            return BAD;
        }
        int before = now.has[what][person];
        now.has[what][person] = v;
        return before;
    }

    public int trade(int person, int other) {
        if (!now.areTwo(person, other)) {
            return BAD;
        }
        now.changePlaces(person, other);
        return 1;
    }

    public int days(int n) {
        if (!isWithin(n, 1, DAYS_MOST)) {
            return BAD;
        }
        now.passDays(n);
        return now.sumOf(COINS);
    }

    public int seed(int v) {
        int before = now.z;
        now.z = v;
        return before;
    }

    public int day() {
        now.passDayByDraws();
        return now.sumOf(COINS);
    }

    public int lucky(int person, int n) {
        if (!now.exists(person) || !isWithin(n, 1, 30)) {
            return BAD;
        }
        int plain = purseFromNow(person, 1);
        int z = now.z;
        int luckyDays = 0;
        for (int i = 0; i < n; i++) {
            tried.copyFrom(now);
            tried.z = z;
            tried.passDayByDraws();
            z = tried.z;
            if (tried.has[COINS][person] > plain) {
                luckyDays++;
            }
        }
        return luckyDays;
    }

    public int state(int what) {
        switch (what) {
            case 0: return now.dayNumber;
            case 1: return now.chest;
            case 2: return now.sumOf(COINS);
            case 3: return now.setOnSteps();
            case 4: return now.sumOf(WEB);
            case 5: return fairPairs();
            default: return BAD;
        }
    }

    public int purse(int person, int n) {
        if (!now.exists(person) || !isWithin(n, 0, DAYS_MOST)) {
            return BAD;
        }
        return purseFromNow(person, n);
    }

    public int steps(int person) {
        return now.exists(person) ? fewestDays(STANDS_ON_STEPS, person) : BAD;
    }

    public int all() {
        return fewestDays(ALL_STAND_ON_STEPS, 0);
    }

    public int poor(int person) {
        return now.exists(person) ? fewestDays(HAS_NO_COINS, person) : BAD;
    }

    public int webFor(int person, int n) {
        return isAskable(person, n) ? bestTrait(person, WEB, n) : BAD;
    }

    public int kindFor(int person, int n) {
        return isAskable(person, n) ? bestTrait(person, KIND, n) : BAD;
    }

    public int wishFor(int person, int n, int v) {
        if (!isAskable(person, n) || !isWithin(v, 0, COINS_MOST)) {
            return BAD;
        }
        for (int wish = 0; wish <= PERCENT_MOST; wish++) {
            if (purseWith(person, WISH, wish, n) >= v) {
                return wish;
            }
        }
        return NONE;
    }

    public int changeFor(int person, int n) {
        if (!isAskable(person, n)) {
            return BAD;
        }
        int most = purseFromNow(person, n);
        int best = NONE;
        for (int other = 0; other < now.count; other++) {
            if (other != person) {
                int purse = purseInPlaceOf(person, other, n);
                if (purse > most) {
                    most = purse;
                    best = other;
                }
            }
        }
        return best;
    }

    public int fair(int person) {
        return now.exists(person) ? now.setFairWith(person) : BAD;
    }

    public int paired() {
        worthOfSet[0] = 0;
        for (int last = 0; last < now.count; last++) {
            int bit = 1 << last;
            for (int others = 0; others < bit; others++) {
                worthOfSet[others | bit] = worthWithLast(last, others);
            }
        }
        return worthOfSet[(1 << now.count) - 1];
    }

    public int fits(int sheet, int person, int what) {
        if (!isPlace(sheet) || !now.exists(person) || !isWithin(what, 0, 1)) {
            return BAD;
        }
        if (sheets[sheet].sort == MISSING) {
            return NOTHING_THERE;
        }
        int fitting = 0;
        int least = NONE;
        for (int web = PERCENT_MOST; web >= 0; web--) {
            if (isFitting(sheets[sheet], person, web)) {
                fitting++;
                least = web;
            }
        }
        return what == 0 ? fitting : least;
    }

    public long odds(int n, int k, int part) {
        if (!isWithin(n, 0, 8) || !isWithin(k, 0, n) || !isWithin(part, 0, 1)) {
            return BAD;
        }
        int slip = now.laws[SLIP];
        long above = waysToChoose(n, k) * power(slip, k) * power(100 - slip, n - k);
        return partOfFraction(above, power(100, n), part);
    }

    public long hope(int n, int part) {
        if (!isWithin(n, 0, 99) || !isWithin(part, 0, 1)) {
            return BAD;
        }
        return partOfFraction((long) n * now.laws[SLIP], 100, part);
    }

    public int prove(int person, int n) {
        if (!now.exists(person) || !isWithin(n, 1, ROWS_MOST)) {
            return BAD;
        }
        tried.copyFrom(now);
        for (int i = 0; i < n; i++) {
            tried.passDays(1);
            for (int part = 0; part < ROW_PARTS; part++) {
                rows[i][part] = tried.partOfRow(person, part);
            }
        }
        rowCount = n;
        return n;
    }

    public int row(int i, int what) {
        return isInRows(i, what) ? rows[i][what] : NO_ROW;
    }

    public int alterRow(int i, int what, int v) {
        if (!isInRows(i, what)) {
            return NO_ROW;
        }
        int before = rows[i][what];
        rows[i][what] = v;
        return before;
    }

    public int judge(int person) {
        if (!now.exists(person)) {
            return BAD;
        }
        tried.copyFrom(now);
        for (int i = 0; i < rowCount; i++) {
            tried.passDays(1);
            for (int part = 0; part < ROW_PARTS; part++) {
                if (rows[i][part] != tried.partOfRow(person, part)) {
                    return i + 1;
                }
            }
        }
        return 0;
    }

    public int minds(int sheet, int i, int person, int n) {
        if (!isPlace(sheet) || !now.exists(person) || !isWithin(n, 0, now.count - person)) {
            return BAD;
        }
        Sheet from = sheets[sheet];
        if (from.sort == MISSING) {
            return NOTHING_THERE;
        }
        if (from.sort != BYTES) {
            return OTHER_SORT;
        }
        if (!isWithin(i, 0, from.size) || n > from.size - i) {
            return PLACE_OUTSIDE;
        }
        for (int k = 0; k < n; k++) {
            now.has[WEB][person + k] = held((int) from.items[i + k], PERCENT_MOST);
        }
        return n;
    }

    public int sheet(int sheet, int sort, int n) {
        if (!isPlace(sheet) || !isWithin(sort, MISSING, LONGS) || (sort != MISSING && n > SHEET_MOST)) {
            return BAD;
        }
        if (sort != MISSING && n < 0) {
            return SIZE_BELOW_0;
        }
        sheets[sheet].become(sort, sort == MISSING ? 0 : n);
        return 1;
    }

    public int put(int sheet, int i, int v) {
        if (!isPlace(sheet)) {
            return BAD;
        }
        Sheet to = sheets[sheet];
        if (to.sort == MISSING) {
            return NOTHING_THERE;
        }
        if (!isWithin(i, 0, to.size - 1)) {
            return PLACE_OUTSIDE;
        }
        to.items[i] = narrowed(v, to.sort);
        return 1;
    }

    public int item(int sheet, int sort, int i) {
        if (!isPlace(sheet) || !isWithin(sort, BYTES, LONGS)) {
            return BAD;
        }
        Sheet from = sheets[sheet];
        if (from.sort == MISSING) {
            return NOTHING_THERE;
        }
        if (from.sort != sort) {
            return OTHER_SORT;
        }
        return isWithin(i, 0, from.size - 1) ? (int) from.items[i] : PLACE_OUTSIDE;
    }

    public int shelf(int shelf, int what, int n) {
        if (!isPlace(shelf)) {
            return BAD;
        }
        switch (what) {
            case 0: return now.exists(n) ? shelves[shelf].takePerson(n) : BAD;
            case 1: return isPlace(n) ? shelves[shelf].takeRow(sheets[n]) : BAD;
            case 2: return shelves[shelf].takeNothing();
            default: return BAD;
        }
    }

    public int taken(int shelf, int as) {
        boolean asPerson = isTrait(KIND, as);
        if (!isPlace(shelf) || (!asPerson && !isWithin(as - 10, BYTES, LONGS))) {
            return BAD;
        }
        Shelf from = shelves[shelf];
        if (from.holds == HOLDS_ROW) {
            return as - 10 == from.sort ? from.number : OTHER_SORT;
        }
        if (!holdsPersonNow(from)) {
            return NOTHING_THERE;
        }
        return asPerson && isUnder(now.has[KIND][from.number], as) ? from.number : OTHER_SORT;
    }

    public int act(int shelf, int act, int x) {
        thing.forgetTrace();
        if (!isPlace(shelf) || !holdsPersonNow(shelves[shelf])) {
            return 0;
        }
        int number = shelves[shelf].number;
        thing.become(now.has[KIND][number], number, now.has[TRUTH][number]);
        int answer;
        switch (act) {
            case 0: answer = thing.sees(x); break;
            case 1: answer = thing.pays(x); break;
            case 2: answer = thing.parts(x); break;
            case 3: answer = thing.turns(x); break;
            default: answer = 0;
        }
        return thing.isPartedBy0 ? PARTED_BY_0 : answer;
    }

    public int trace(int i) {
        return isWithin(i, 0, thing.traceLength - 1) ? thing.bodies[i] : NONE;
    }

    public int many(int what) {
        switch (what) {
            case 0: return now.count;
            case 1: return Integer.bitCount(now.setOnSteps());
            case 2: return now.howManyHaveCoins();
            case 3: return now.howManyWear();
            case 4: return rowCount;
            case 5: return tape.size;
            case 6: return thing.traceLength;
            default: return BAD;
        }
    }

    public int keep() {
        kept.copyFrom(now);
        isKept = true;
        return 1;
    }

    public int again() {
        if (!isKept) {
            return NONE;
        }
        now.copyFrom(kept);
        return now.count;
    }

    private static boolean isWithin(int v, int least, int most) {
        return v >= least && v <= most;
    }

    private static int held(int v, int most) {
        return Math.max(0, Math.min(most, v));
    }

    private static boolean isLaw(int law) {
        return isWithin(law, 0, LAWS - 1);
    }

    private static boolean isPlace(int place) {
        return isWithin(place, 0, PLACES - 1);
    }

    /** What: a trait from KIND to COINS. */
    private static boolean isTrait(int what, int v) {
        return isWithin(v, 0, TRAIT_MOST[what]);
    }

    private static boolean isUnder(int kind, int as) {
        switch (as) {
            case BUYER: return true;
            case WIFE: return kind == WIFE || kind == KNITTER;
            case MAGISTRATE: return kind == MAGISTRATE || kind == CLERK;
            default: return kind == as;
        }
    }

    private boolean isAskable(int person, int n) {
        return now.exists(person) && isWithin(n, 1, ASKED_DAYS_MOST);
    }

    private boolean isInRows(int i, int what) {
        return isWithin(i, 0, rowCount - 1) && isWithin(what, 0, ROW_PARTS - 1);
    }

    private boolean holdsPersonNow(Shelf from) {
        return from.holds == HOLDS_PERSON && now.exists(from.number);
    }

    private int purseFromNow(int person, int n) {
        tried.copyFrom(now);
        tried.passDays(n);
        return tried.has[COINS][person];
    }

    private int purseWith(int person, int what, int v, int n) {
        tried.copyFrom(now);
        tried.has[what][person] = v;
        tried.passDays(n);
        return tried.has[COINS][person];
    }

    private int purseInPlaceOf(int person, int other, int n) {
        tried.copyFrom(now);
        tried.changePlaces(person, other);
        tried.passDays(n);
        return tried.has[COINS][other];
    }

    private int bestTrait(int person, int what, int n) {
        int most = -1;
        int best = 0;
        for (int v = 0; v <= TRAIT_MOST[what]; v++) {
            int purse = purseWith(person, what, v, n);
            if (purse > most) {
                most = purse;
                best = v;
            }
        }
        return best;
    }

    private int fewestDays(int asked, int person) {
        tried.copyFrom(now);
        for (int n = 0; n <= DAYS_MOST; n++) {
            if (tried.isSo(asked, person)) {
                return n;
            }
            tried.passDays(1);
        }
        return NONE;
    }

    private boolean isFitting(Sheet purses, int person, int web) {
        tried.copyFrom(now);
        tried.has[WEB][person] = web;
        for (int i = 0; i < purses.size; i++) {
            tried.passDays(1);
            if (purses.items[i] != -1 && purses.items[i] != tried.has[COINS][person]) {
                return false;
            }
        }
        return true;
    }

    private int fairPairs() {
        int twice = 0;
        for (int person = 0; person < now.count; person++) {
            twice += Integer.bitCount(now.setFairWith(person));
        }
        return twice / 2;
    }

    /** The last one stays alone or pairs with one of the others, who all come before it: their sets are known. */
    private int worthWithLast(int last, int others) {
        int most = worthOfSet[others];
        for (int other = 0; other < last; other++) {
            int bit = 1 << other;
            if ((others & bit) != 0) {
                most = Math.max(most, now.worthOfPair(last, other) + worthOfSet[others ^ bit]);
            }
        }
        return most;
    }

    private static long narrowed(int v, int sort) {
        switch (sort) {
            case BYTES: return (byte) v;
            case SHORTS: return (short) v;
            default: return v;
        }
    }

    private static long waysToChoose(int n, int k) {
        long ways = 1;
        for (int i = 1; i <= k; i++) {
            ways = ways * (n - k + i) / i;
        }
        return ways;
    }

    private static long power(long base, int times) {
        long product = 1;
        for (int i = 0; i < times; i++) {
            product *= base;
        }
        return product;
    }

    private static long partOfFraction(long above, long below, int part) {
        long divisor = commonDivisor(above, below);
        return (part == 0 ? above : below) / divisor;
    }

    /** At least 1. Numbers below 10 to the 17th need fewer than 90 steps. */
    private static long commonDivisor(long above, long below) {
        long one = below;
        long other = above;
        for (int i = 0; i < 1000 && other != 0; i++) {
            long rest = one % other;
            one = other;
            other = rest;
        }
        return Math.max(1, one);
    }

    /** LAWS, DAY, THE CHEST, PEOPLE and z: all that is tried and kept. */
    private static final class Market {
        final int[] laws = LAW_AT_FIRST.clone();
        final int[][] has = new int[TRAITS][PEOPLE_MOST];
        int count;
        int dayNumber;
        int chest;
        int z = 1;

        /** But for z, which stays when a market is told in a text. */
        void becomeAsAtFirst() {
            System.arraycopy(LAW_AT_FIRST, 0, laws, 0, LAWS);
            count = 0;
            dayNumber = 0;
            chest = 0;
        }

        void copyFrom(Market from) {
            System.arraycopy(from.laws, 0, laws, 0, LAWS);
            for (int what = 0; what < TRAITS; what++) {
                System.arraycopy(from.has[what], 0, has[what], 0, PEOPLE_MOST);
            }
            count = from.count;
            dayNumber = from.dayNumber;
            chest = from.chest;
            z = from.z;
        }

        boolean exists(int person) {
            return isWithin(person, 0, count - 1);
        }

        boolean areTwo(int person, int other) {
            return exists(person) && exists(other) && person != other;
        }

        boolean isFull() {
            return count >= PEOPLE_MOST;
        }

        /** Only while the market is not full. */
        int addPerson(int kind) {
            int number = count;
            has[KIND][number] = kind;
            has[TRUTH][number] = 0;
            has[WISH][number] = 0;
            has[WEB][number] = 0;
            has[COINS][number] = COINS_AT_FIRST;
            count++;
            return number;
        }

        void changePlaces(int person, int other) {
            for (int what = 0; what < TRAITS; what++) {
                int left = has[what][person];
                has[what][person] = has[what][other];
                has[what][other] = left;
            }
        }

        int wears(int person) {
            int web = has[WEB][person];
            switch (has[KIND][person]) {
                case WIFE: return web / 2;
                // At most 49 and 9: the bound of 99 is never reached.
                case KNITTER: return web / 2 + laws[WEFT];
                case MAGISTRATE: return web / 4;
                case CLERK: return web / 4 + has[WISH][person] / 10;
                case UNCLE: return 0;
                default: return web;
            }
        }

        int sees(int person, int other) {
            int worn = wears(person);
            return (has[TRUTH][other] * (99 - worn) + has[WISH][person] * worn) / 99;
        }

        int offers(int person, int other) {
            int seen = sees(person, other);
            switch (has[KIND][person]) {
                case WIFE: return seen - laws[WEFT];
                case KNITTER: return (seen - laws[WEFT]) * 2;
                case MAGISTRATE: return seen + 5;
                case CLERK: return (seen + 5) / 2;
                case UNCLE: return seen - 10;
                default: return seen;
            }
        }

        int frays(int person) {
            int fray = laws[FRAY];
            switch (has[KIND][person]) {
                case WIFE: return fray - 2;
                case KNITTER: return fray - 2 - laws[WEFT];
                case MAGISTRATE: return fray * 2;
                case CLERK: return dayNumber % 2 == 0 ? fray * 2 : 0;
                case UNCLE: return fray + 9;
                default: return fray;
            }
        }

        void passDays(int n) {
            for (int i = 0; i < n; i++) {
                if (count >= 2) {
                    payRound();
                }
                frayWebs();
                dayNumber++;
            }
        }

        private void payRound() {
            for (int person = 0; person < count; person++) {
                int next = person == count - 1 ? 0 : person + 1;
                int paid = held(offers(person, next), has[COINS][person]);
                int toll = Math.min(paid, laws[TOLL]);
                has[COINS][person] -= paid;
                has[COINS][next] = Math.min(COINS_MOST, has[COINS][next] + paid - toll);
                chest = Math.min(CHEST_MOST, chest + toll);
            }
        }

        private void frayWebs() {
            for (int person = 0; person < count; person++) {
                has[WEB][person] = held(has[WEB][person] - frays(person), PERCENT_MOST);
            }
        }

        void passDayByDraws() {
            if (count > 0) {
                int slipping = draw() % count;
                if (draw() % 100 < laws[SLIP]) {
                    has[WEB][slipping] = 0;
                }
            }
            passDays(1);
        }

        private int draw() {
            z = z * 1103515245 + 12345;
            return z >>> 16;
        }

        boolean isOnSteps(int person) {
            return has[WEB][person] == 0;
        }

        boolean isSo(int asked, int person) {
            switch (asked) {
                case STANDS_ON_STEPS: return isOnSteps(person);
                case ALL_STAND_ON_STEPS: return setOnSteps() == (1 << count) - 1;
                default: return has[COINS][person] == 0;
            }
        }

        int setOnSteps() {
            int set = 0;
            for (int person = 0; person < count; person++) {
                if (isOnSteps(person)) {
                    set |= 1 << person;
                }
            }
            return set;
        }

        int sumOf(int what) {
            int sum = 0;
            for (int person = 0; person < count; person++) {
                sum += has[what][person];
            }
            return sum;
        }

        int howManyHaveCoins() {
            int having = 0;
            for (int person = 0; person < count; person++) {
                having += has[COINS][person] > 0 ? 1 : 0;
            }
            return having;
        }

        int howManyWear() {
            int wearing = 0;
            for (int person = 0; person < count; person++) {
                wearing += wears(person) > 0 ? 1 : 0;
            }
            return wearing;
        }

        int setFairWith(int person) {
            int set = 0;
            for (int other = 0; other < count; other++) {
                if (other != person && offers(person, other) == offers(other, person)) {
                    set |= 1 << other;
                }
            }
            return set;
        }

        int worthOfPair(int person, int other) {
            return Math.max(0, offers(person, other)) + Math.max(0, offers(other, person));
        }

        int partOfRow(int person, int part) {
            switch (part) {
                case 0: return has[WEB][person];
                case 1: return has[COINS][person];
                default: return setOnSteps();
            }
        }
    }

    /** THE TAPE, and the market of its TEXT, read word by word; a word is a NAME, a NUMBER or another byte. */
    private static final class Tape {
        private static final int AT_END = 0, NAME = 1, NUMBER = 2, OTHER_BYTE = 3;
        private static final int NO_FAULT = -1;

        final Market told = new Market();
        int size;
        private final byte[] text = new byte[TAPE_MOST];
        private int next;
        private int word;
        private int wordStart;

        /** Only as many bytes as there is room for. */
        void takeBytes(long eight, int n) {
            for (int i = 0; i < n; i++) {
                text[size + i] = (byte) (eight >>> (8 * i));
            }
            size += n;
        }

        /** The place of the FAULT, or below 0 if there is none. */
        int readText() {
            next = 0;
            told.becomeAsAtFirst();
            readWord();
            // Every entry takes two words at least, so there are fewer entries than bytes.
            for (int entries = 0; entries <= TAPE_MOST && word != AT_END; entries++) {
                if (!readEntry()) {
                    return wordStart;
                }
            }
            return NO_FAULT;
        }

        /** False: the latest word is the one that can't stand there. */
        private boolean readEntry() {
            if (word != NAME) {
                return false;
            }
            int law = lawNamed();
            boolean isRead = law >= 0 ? readLaw(law) : readPerson(kindNamed());
            if (!isRead || !isByte(';')) {
                return false;
            }
            readWord();
            return true;
        }

        private boolean readLaw(int law) {
            readWord();
            if (!isNumberTo(LAW_MOST[law])) {
                return false;
            }
            told.laws[law] = numberRead();
            readWord();
            return true;
        }

        private boolean readPerson(int kind) {
            if (kind < 0 || told.isFull()) {
                return false;
            }
            int number = told.addPerson(kind);
            readWord();
            return readTrait(number, TRUTH, "truth", PERCENT_MOST)
                    && readTrait(number, WISH, "wish", PERCENT_MOST)
                    && readTrait(number, WEB, "web", PERCENT_MOST)
                    && readTrait(number, COINS, "coins", COINS_TOLD_MOST);
        }

        /** True also if the trait isn't told. */
        private boolean readTrait(int number, int what, String name, int most) {
            if (!isName(name)) {
                return true;
            }
            readWord();
            if (!isNumberTo(most)) {
                return false;
            }
            told.has[what][number] = numberRead();
            readWord();
            return true;
        }

        private int lawNamed() {
            return isName("weft") ? WEFT : isName("fray") ? FRAY : isName("toll") ? TOLL : isName("slip") ? SLIP : -1;
        }

        private int kindNamed() {
            return isName("buyer") ? BUYER : isName("wife") ? WIFE : isName("magistrate") ? MAGISTRATE
                    : isName("knitter") ? KNITTER : isName("clerk") ? CLERK : isName("uncle") ? UNCLE : -1;
        }

        private void readWord() {
            while (next < size && text[next] == ' ') {
                next++;
            }
            wordStart = next;
            if (next >= size) {
                word = AT_END;
            } else if (isLetter(text[next])) {
                word = NAME;
                while (next < size && isLetter(text[next])) {
                    next++;
                }
            } else if (isDigit(text[next])) {
                word = NUMBER;
                while (next < size && isDigit(text[next])) {
                    next++;
                }
            } else {
                word = OTHER_BYTE;
                next++;
            }
        }

        private boolean isName(String name) {
            if (word != NAME || next - wordStart != name.length()) {
                return false;
            }
            for (int i = 0; i < name.length(); i++) {
                if (text[wordStart + i] != name.charAt(i)) {
                    return false;
                }
            }
            return true;
        }

        private boolean isByte(char sign) {
            return word == OTHER_BYTE && text[wordStart] == sign;
        }

        private boolean isNumberTo(int most) {
            return word == NUMBER && next - wordStart <= 3 && numberRead() <= most;
        }

        /** Only of a NUMBER of three digits at most. */
        private int numberRead() {
            int number = 0;
            for (int i = wordStart; i < next; i++) {
                number = number * 10 + (text[i] - '0');
            }
            return number;
        }

        private static boolean isLetter(byte sign) {
            return sign >= 'a' && sign <= 'z';
        }

        private static boolean isDigit(byte sign) {
            return sign >= '0' && sign <= '9';
        }
    }

    /** A row of numbers of one sort, or missing; each item is as narrow as its sort. */
    private static final class Sheet {
        final long[] items = new long[SHEET_MOST];
        int sort = MISSING;
        int size;

        void become(int newSort, int newSize) {
            sort = newSort;
            size = newSize;
            for (int i = 0; i < SHEET_MOST; i++) {
                items[i] = 0;
            }
        }
    }

    /** Holds one of PEOPLE by its number, or a row: what can be asked of that is its sort and its size. */
    private static final class Shelf {
        int holds = HOLDS_NOTHING;
        int number;
        int sort = MISSING;

        int takePerson(int person) {
            holds = HOLDS_PERSON;
            number = person;
            return 1;
        }

        /** The row stays as it is now, whatever its SHEET becomes later. */
        int takeRow(Sheet from) {
            holds = from.sort == MISSING ? HOLDS_NOTHING : HOLDS_ROW;
            sort = from.sort;
            number = from.size;
            return 1;
        }

        int takeNothing() {
            holds = HOLDS_NOTHING;
            return 1;
        }
    }

    /** One of PEOPLE as it acts: BODIES by KIND, and the TRACE that they leave. */
    private static final class Thing {
        final int[] bodies = new int[TRACE_MOST];
        int traceLength;
        boolean isPartedBy0;
        private int kind;
        private int n;
        private int a;

        void forgetTrace() {
            traceLength = 0;
            isPartedBy0 = false;
        }

        void become(int newKind, int number, int truth) {
            kind = newKind;
            n = number;
            a = truth;
        }

        int sees(int x) {
            switch (kind) {
                case KNITTER:
                    begin(51);
                    return buyerSees(x) + a;
                case MAGISTRATE:
                    begin(30);
                    return buyerSees(x) ^ 2;
                case CLERK:
                    begin(40);
                    begin(30);
                    return 3 - (buyerSees(x) ^ 2);
                default:
                    return buyerSees(x);
            }
        }

        int pays(int x) {
            switch (kind) {
                case WIFE:
                case KNITTER:
                    begin(20);
                    return buyerPays(x) - 6;
                case CLERK:
                    begin(41);
                    return buyerPays(x) ^ sees(a);
                default:
                    return buyerPays(x);
            }
        }

        int parts(int x) {
            switch (kind) {
                case KNITTER:
                    begin(50);
                    return buyerParts(x - 1) * 2;
                case UNCLE:
                    begin(61);
                    int parted = buyerParts(x);
                    // Behind a parting by 0 no further body may run, or THE TRACE would tell of it.
                    return isPartedBy0 ? 0 : parted - sees(n);
                default:
                    return buyerParts(x);
            }
        }

        int turns(int x) {
            switch (kind) {
                case MAGISTRATE:
                case CLERK:
                    begin(31);
                    return buyerTurns(x) + parts(n);
                case UNCLE:
                    begin(60);
                    return buyerTurns(x) * 5;
                default:
                    return buyerTurns(x);
            }
        }

        private int buyerSees(int x) {
            begin(10);
            return x + n * 4;
        }

        private int buyerPays(int x) {
            begin(11);
            return sees(x) * 3 - a;
        }

        private int buyerParts(int x) {
            begin(12);
            if (a == n) {
                isPartedBy0 = true;
                return 0;
            }
            return x / (a - n);
        }

        private int buyerTurns(int x) {
            begin(13);
            return pays(x) ^ 24;
        }

        private void begin(int body) {
            if (traceLength < TRACE_MOST) {
                bodies[traceLength] = body;
                traceLength++;
            }
        }
    }
}
