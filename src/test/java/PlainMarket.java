import java.math.BigInteger;
import java.util.ArrayList;
import java.util.List;
import java.util.function.Consumer;
import java.util.function.Predicate;
import java.util.function.ToIntFunction;
import java.util.regex.Matcher;
import java.util.regex.Pattern;

/**
 * The document a second time, written apart from WoolMarket and in another manner (kinds as classes, rows as arrays,
 * refusals thrown), so that a slip in one of the two shows where RandomCallsTest compares them.
 */
final class PlainMarket {
    static final class Refused extends RuntimeException {
        private static final long serialVersionUID = 1;
        final int answer;

        Refused(int answer) {
            super(null, null, false, false);
            this.answer = answer;
        }
    }

    private static void check(boolean isAsTold, int answer) {
        if (!isAsTold) {
            throw new Refused(answer);
        }
    }

    private static void bad(boolean isAsTold) {
        check(isAsTold, -1);
    }

    private static boolean in(int v, int least, int most) {
        return least <= v && v <= most;
    }

    /** What is so of one, apart from its kind. */
    static class Buyer {
        int truth, wish, web, coins = 50;
        int n;
        List<Integer> trace;

        int kind() { return 0; }
        int wears(State s) { return web; }
        final int sees(State s, Buyer other) {
            return (other.truth * (99 - wears(s)) + wish * wears(s)) / 99;
        }
        int offers(State s, Buyer other) { return sees(s, other); }
        int frays(State s) { return s.law[1]; }

        void began(int body) { trace.add(body); }
        int sees(int x) { began(10); return x + n * 4; }
        int pays(int x) { began(11); return sees(x) * 3 - truth; }
        int parts(int x) {
            began(12);
            check(truth != n, -15);
            return x / (truth - n);
        }
        int turns(int x) { began(13); return pays(x) ^ 24; }
    }

    static class Wife extends Buyer {
        @Override int kind() { return 1; }
        @Override int wears(State s) { return super.wears(s) / 2; }
        @Override int offers(State s, Buyer other) { return super.offers(s, other) - s.law[0]; }
        @Override int frays(State s) { return super.frays(s) - 2; }
        @Override int pays(int x) { began(20); return super.pays(x) - 6; }
    }

    static final class Knitter extends Wife {
        @Override int kind() { return 3; }
        @Override int wears(State s) { return Math.min(99, super.wears(s) + s.law[0]); }
        @Override int offers(State s, Buyer other) { return 2 * super.offers(s, other); }
        @Override int frays(State s) { return super.frays(s) - s.law[0]; }
        @Override int parts(int x) { began(50); return super.parts(x - 1) * 2; }
        @Override int sees(int x) { began(51); return super.sees(x) + truth; }
    }

    static class Magistrate extends Buyer {
        @Override int kind() { return 2; }
        @Override int wears(State s) { return super.wears(s) / 4; }
        @Override int offers(State s, Buyer other) { return super.offers(s, other) + 5; }
        @Override int frays(State s) { return 2 * super.frays(s); }
        @Override int sees(int x) { began(30); return super.sees(x) ^ 2; }
        @Override int turns(int x) { began(31); return super.turns(x) + parts(n); }
    }

    static final class Clerk extends Magistrate {
        @Override int kind() { return 4; }
        @Override int wears(State s) { return super.wears(s) + wish / 10; }
        @Override int offers(State s, Buyer other) { return super.offers(s, other) / 2; }
        @Override int frays(State s) { return s.day % 2 == 0 ? super.frays(s) : 0; }
        @Override int sees(int x) { began(40); return 3 - super.sees(x); }
        @Override int pays(int x) { began(41); return super.pays(x) ^ sees(truth); }
    }

    static final class Uncle extends Buyer {
        @Override int kind() { return 5; }
        @Override int wears(State s) { return 0; }
        @Override int offers(State s, Buyer other) { return super.offers(s, other) - 10; }
        @Override int frays(State s) { return super.frays(s) + 9; }
        @Override int turns(int x) { began(60); return super.turns(x) * 5; }
        @Override int parts(int x) { began(61); return super.parts(x) - sees(n); }
    }

    private static final String[] KINDS = {"buyer", "wife", "magistrate", "knitter", "clerk", "uncle"};
    private static final String[] LAW_NAMES = {"weft", "fray", "toll", "slip"};
    private static final int[] LAW_MOST = {9, 9, 9, 99};

    private static Buyer ofKind(int kind) {
        switch (kind) {
            case 0: return new Buyer();
            case 1: return new Wife();
            case 2: return new Magistrate();
            case 3: return new Knitter();
            case 4: return new Clerk();
            default: return new Uncle();
        }
    }

    private static Buyer as(int kind, Buyer of) {
        Buyer one = ofKind(kind);
        one.truth = of.truth;
        one.wish = of.wish;
        one.web = of.web;
        one.coins = of.coins;
        return one;
    }

    static final class State {
        final int[] law = {2, 1, 0, 20};
        int day, chest, z = 1;
        final List<Buyer> people = new ArrayList<>();

        State copy() {
            State s = new State();
            System.arraycopy(law, 0, s.law, 0, 4);
            s.day = day;
            s.chest = chest;
            s.z = z;
            for (Buyer one : people) {
                s.people.add(as(one.kind(), one));
            }
            return s;
        }

        void oneDay() {
            int size = people.size();
            for (int i = 0; i < size && size > 1; i++) {
                Buyer payer = people.get(i);
                Buyer other = people.get((i + 1) % size);
                int pay = Math.min(payer.coins, Math.max(0, payer.offers(this, other)));
                payer.coins -= pay;
                int toll = Math.min(pay, law[2]);
                chest = Math.min(99999, chest + toll);
                other.coins = Math.min(9999, other.coins + (pay - toll));
            }
            for (Buyer one : people) {
                one.web = Math.max(0, Math.min(99, one.web - one.frays(this)));
            }
            day++;
        }

        State behind(int n) {
            State s = copy();
            for (int i = 0; i < n; i++) {
                s.oneDay();
            }
            return s;
        }

        int drawn() {
            z = z * 1103515245 + 12345;
            return z >>> 16;
        }

        void oneDayByDraws() {
            if (!people.isEmpty()) {
                Buyer one = people.get(drawn() % people.size());
                if (drawn() % 100 < law[3]) {
                    one.web = 0;
                }
            }
            oneDay();
        }

        int coins() { return people.stream().mapToInt(p -> p.coins).sum(); }
        int set(Predicate<Buyer> is) {
            int set = 0;
            for (int i = 0; i < people.size(); i++) {
                set += is.test(people.get(i)) ? 1 << i : 0;
            }
            return set;
        }
        int onSteps() { return set(p -> p.web == 0); }
        Buyer one(int person) {
            bad(in(person, 0, people.size() - 1));
            return people.get(person);
        }
    }

    private State now = new State();
    private State keptState;
    private List<Integer> tape = new ArrayList<>();
    private int[][] rows = new int[0][];
    private final Object[] sheets = new Object[4];
    private final Object[] shelves = new Object[4];
    private List<Integer> trace = new ArrayList<>();

    int feed(long eight, int n) {
        bad(in(n, 1, 8));
        check(tape.size() + n <= 200, -2);
        for (int i = 0; i < n; i++) {
            tape.add((int) (eight >> 8 * i) & 255);
        }
        return tape.size();
    }

    /** Words by a pattern; what is due next is told by how far the entry has come. */
    int market() {
        StringBuilder text = new StringBuilder();
        for (int b : tape) {
            text.append((char) b);
        }
        tape = new ArrayList<>();
        State s = new State();
        s.z = now.z;
        Matcher m = Pattern.compile("[a-z]+|[0-9]+|[^ ]", Pattern.DOTALL).matcher(text);
        List<String> options = List.of("truth", "wish", "web", "coins");
        int due = -1;             // -1: an entry; 0 to 3: an option from that one on, or the end; 4: the end of it
        int number = -1;          // 0 to 3: the number of an option; 10 to 13: of a law
        while (m.find()) {
            String word = m.group();
            int fault = -100 - m.start();
            if (number >= 0) {
                int most = number >= 10 ? LAW_MOST[number - 10] : number == 3 ? 999 : 99;
                check(word.matches("[0-9]{1,3}") && Integer.parseInt(word) <= most, fault);
                int v = Integer.parseInt(word);
                if (number >= 10) {
                    s.law[number - 10] = v;
                } else {
                    Buyer one = s.people.get(s.people.size() - 1);
                    switch (number) {
                        case 0: one.truth = v; break;
                        case 1: one.wish = v; break;
                        case 2: one.web = v; break;
                        default: one.coins = v;
                    }
                }
                due = number >= 10 ? 4 : number + 1;
                number = -1;
            } else if (due < 0) {
                int kind = List.of(KINDS).indexOf(word);
                int law = List.of(LAW_NAMES).indexOf(word);
                check(law >= 0 || kind >= 0 && s.people.size() < 8, fault);
                if (law >= 0) {
                    number = 10 + law;
                } else {
                    s.people.add(ofKind(kind));
                    due = 0;
                }
            } else if (word.equals(";")) {
                due = -1;
            } else {
                number = options.indexOf(word);
                check(number >= due, fault);
            }
        }
        check(due < 0 && number < 0, -100 - text.length());
        now = s;
        rows = new int[0][];
        return s.people.size();
    }

    int set(int law, int v) {
        bad(in(law, 0, 3) && in(v, 0, LAW_MOST[law]));
        int was = now.law[law];
        now.law[law] = v;
        return was;
    }

    int lawOf(int law) {
        bad(in(law, 0, 3));
        return now.law[law];
    }

    int person(int kind, int truth, int wish, int web) {
        bad(in(kind, 0, 5) && in(truth, 0, 99) && in(wish, 0, 99) && in(web, 0, 99));
        check(now.people.size() < 8, -2);
        Buyer one = ofKind(kind);
        one.truth = truth;
        one.wish = wish;
        one.web = web;
        now.people.add(one);
        return now.people.size() - 1;
    }

    int of(int person, int what) {
        Buyer one = now.one(person);
        bad(in(what, 0, 5));
        return new int[] {one.kind(), one.truth, one.wish, one.web, one.coins, one.web == 0 ? 1 : 0}[what];
    }

    int does(int person, int what) {
        Buyer one = now.one(person);
        bad(in(what, 0, 1));
        return 1000 + (what == 0 ? one.wears(now) : one.frays(now));
    }

    int looks(int person, int other, int what) {
        Buyer one = now.one(person);
        Buyer two = now.one(other);
        bad(person != other && in(what, 0, 1));
        return 1000 + (what == 0 ? one.sees(now, two) : one.offers(now, two));
    }

    int mind(int person, int kind, int wish) {
        Buyer one = now.one(person);
        bad(in(kind, 0, 5) && in(wish, 0, 99));
        Buyer other = as(kind, one);
        other.wish = wish;
        now.people.set(person, other);
        return one.kind();
    }

    int change(int person, int what, int v) {
        Buyer one = now.one(person);
        bad(in(v, 0, what == 4 ? 9999 : 99) && (what == 1 || what == 3 || what == 4));
        int was = of(person, what);
        switch (what) {
            case 1: one.truth = v; break;
            case 3: one.web = v; break;
            default: one.coins = v;
        }
        return was;
    }

    private static void swap(State s, int person, int other) {
        Buyer one = s.one(person);
        s.people.set(person, s.one(other));
        s.people.set(other, one);
    }

    int trade(int person, int other) {
        now.one(person);
        now.one(other);
        bad(person != other);
        swap(now, person, other);
        return 1;
    }

    int days(int n) {
        bad(in(n, 1, 60));
        now = now.behind(n);
        return now.coins();
    }

    int seed(int v) {
        int was = now.z;
        now.z = v;
        return was;
    }

    int day() {
        now.oneDayByDraws();
        return now.coins();
    }

    int lucky(int person, int n) {
        now.one(person);
        bad(in(n, 1, 30));
        int z = now.z;
        int times = 0;
        for (int i = 0; i < n; i++) {
            State s = now.copy();
            s.z = z;
            s.oneDayByDraws();
            z = s.z;
            times += s.one(person).coins > purse(person, 1) ? 1 : 0;
        }
        return times;
    }

    int state(int what) {
        bad(in(what, 0, 5));
        int pairs = 0;
        for (int i = 0; i < now.people.size(); i++) {
            pairs += Integer.bitCount(fair(i) >> i);
        }
        return new int[] {now.day, now.chest, now.coins(), now.onSteps(),
            now.people.stream().mapToInt(p -> p.web).sum(), pairs}[what];
    }

    int purse(int person, int n) {
        now.one(person);
        bad(in(n, 0, 60));
        return now.behind(n).one(person).coins;
    }

    private int first(Predicate<State> is) {
        for (int n = 0; n <= 60; n++) {
            if (is.test(now.behind(n))) {
                return n;
            }
        }
        return -3;
    }

    int steps(int person) {
        now.one(person);
        return first(s -> s.one(person).web == 0);
    }

    int all() {
        return first(s -> s.people.stream().allMatch(p -> p.web == 0));
    }

    int poor(int person) {
        now.one(person);
        return first(s -> s.one(person).coins == 0);
    }

    private int purseIf(int person, int n, Consumer<State> change) {
        State s = now.copy();
        change.accept(s);
        return s.behind(n).one(person).coins;
    }

    private static int mostAt(int least, int most, ToIntFunction<Integer> worth) {
        int best = least;
        for (int v = least; v <= most; v++) {
            best = worth.applyAsInt(v) > worth.applyAsInt(best) ? v : best;
        }
        return best;
    }

    int webFor(int person, int n) {
        now.one(person);
        bad(in(n, 1, 20));
        return mostAt(0, 99, web -> purseIf(person, n, s -> s.one(person).web = web));
    }

    int kindFor(int person, int n) {
        now.one(person);
        bad(in(n, 1, 20));
        return mostAt(0, 5, kind -> purseIf(person, n, s -> s.people.set(person, as(kind, s.one(person)))));
    }

    int wishFor(int person, int n, int v) {
        now.one(person);
        bad(in(n, 1, 20) && in(v, 0, 9999));
        for (int wish = 0; wish < 100; wish++) {
            int w = wish;
            if (purseIf(person, n, s -> s.one(person).wish = w) >= v) {
                return wish;
            }
        }
        return -3;
    }

    int changeFor(int person, int n) {
        now.one(person);
        bad(in(n, 1, 20));
        int best = mostAt(-1, now.people.size() - 1, other -> {
            int place = other == -1 ? person : other;
            State s = now.copy();
            swap(s, person, place);
            return s.behind(n).one(place).coins;
        });
        return best == -1 ? -3 : best;
    }

    int fair(int person) {
        Buyer one = now.one(person);
        return now.set(p -> p != one && p.offers(now, one) == one.offers(now, p));
    }

    int paired() {
        return pairedAmong(new ArrayList<>(now.people));
    }

    private int pairedAmong(List<Buyer> left) {
        if (left.size() < 2) {
            return 0;
        }
        List<Buyer> others = left.subList(1, left.size());
        int best = pairedAmong(others);
        for (Buyer two : others) {
            List<Buyer> rest = new ArrayList<>(others);
            rest.remove(two);
            int worth = Math.max(0, left.get(0).offers(now, two)) + Math.max(0, two.offers(now, left.get(0)));
            best = Math.max(best, worth + pairedAmong(rest));
        }
        return best;
    }

    private static int place(int place) {
        bad(in(place, 0, 3));
        return place;
    }

    private Object row(int sheet) {
        check(sheets[sheet] != null, -11);
        return sheets[sheet];
    }

    private static int sizeOf(Object row) {
        return java.lang.reflect.Array.getLength(row);
    }

    private static int sortOf(Object row) {
        return row instanceof byte[] ? 0 : row instanceof short[] ? 1 : row instanceof int[] ? 2 : 3;
    }

    private static long itemOf(Object row, int i) {
        return java.lang.reflect.Array.getLong(row, i);
    }

    int fits(int sheet, int person, int what) {
        place(sheet);
        now.one(person);
        bad(in(what, 0, 1));
        Object row = row(sheet);
        List<Integer> webs = new ArrayList<>();
        for (int web = 0; web < 100; web++) {
            State s = now.copy();
            s.one(person).web = web;
            boolean fit = true;
            for (int i = 0; i < sizeOf(row); i++) {
                s.oneDay();
                fit &= itemOf(row, i) == -1 || itemOf(row, i) == s.one(person).coins;
            }
            if (fit) {
                webs.add(web);
            }
        }
        return what == 0 ? webs.size() : webs.isEmpty() ? -3 : webs.get(0);
    }

    private static long part(BigInteger above, BigInteger below, int part) {
        BigInteger d = above.gcd(below);
        return (part == 0 ? above : below).divide(d).longValueExact();
    }

    /** By the webs one behind the other, not by how many ways there are. */
    long odds(int n, int k, int part) {
        bad(in(n, 0, 8) && in(k, 0, n) && in(part, 0, 1));
        BigInteger slip = BigInteger.valueOf(now.law[3]);
        BigInteger hundred = BigInteger.valueOf(100);
        BigInteger[] ways = new BigInteger[10];
        java.util.Arrays.fill(ways, BigInteger.ZERO);
        ways[0] = BigInteger.ONE;
        for (int i = 0; i < n; i++) {
            for (int j = 9; j >= 0; j--) {
                BigInteger slipped = j == 0 ? BigInteger.ZERO : ways[j - 1].multiply(slip);
                ways[j] = ways[j].multiply(hundred.subtract(slip)).add(slipped);
            }
        }
        return part(ways[k], hundred.pow(n), part);
    }

    long hope(int n, int part) {
        bad(in(n, 0, 99) && in(part, 0, 1));
        return part(BigInteger.valueOf((long) n * now.law[3]), BigInteger.valueOf(100), part);
    }

    private int[] rowBehind(int person, int n) {
        State s = now.behind(n);
        return new int[] {s.one(person).web, s.one(person).coins, s.onSteps()};
    }

    int prove(int person, int n) {
        now.one(person);
        bad(in(n, 1, 10));
        rows = new int[n][];
        for (int i = 0; i < n; i++) {
            rows[i] = rowBehind(person, i + 1);
        }
        return n;
    }

    int row(int i, int what) {
        check(in(i, 0, rows.length - 1) && in(what, 0, 2), -9);
        return rows[i][what];
    }

    int alterRow(int i, int what, int v) {
        int was = row(i, what);
        rows[i][what] = v;
        return was;
    }

    int judge(int person) {
        now.one(person);
        for (int i = 0; i < rows.length; i++) {
            if (!java.util.Arrays.equals(rows[i], rowBehind(person, i + 1))) {
                return i + 1;
            }
        }
        return 0;
    }

    int minds(int sheet, int i, int person, int n) {
        place(sheet);
        now.one(person);
        bad(in(n, 0, 8) && person + n <= now.people.size());
        Object row = row(sheet);
        check(row instanceof byte[], -13);
        byte[] bytes = (byte[]) row;
        check(in(i, 0, bytes.length) && (long) i + n <= bytes.length, -12);
        for (int k = 0; k < n; k++) {
            now.one(person + k).web = Math.max(0, Math.min(99, bytes[i + k]));
        }
        return n;
    }

    int sheet(int sheet, int sort, int n) {
        place(sheet);
        bad(in(sort, -1, 3));
        bad(sort == -1 || n <= 40);
        check(sort == -1 || n >= 0, -14);
        switch (sort) {
            case -1: sheets[sheet] = null; break;
            case 0: sheets[sheet] = new byte[n]; break;
            case 1: sheets[sheet] = new short[n]; break;
            case 2: sheets[sheet] = new int[n]; break;
            default: sheets[sheet] = new long[n];
        }
        return 1;
    }

    int put(int sheet, int i, int v) {
        place(sheet);
        Object row = row(sheet);
        check(in(i, 0, sizeOf(row) - 1), -12);
        switch (sortOf(row)) {
            case 0: ((byte[]) row)[i] = (byte) v; break;
            case 1: ((short[]) row)[i] = (short) v; break;
            case 2: ((int[]) row)[i] = v; break;
            default: ((long[]) row)[i] = v;
        }
        return 1;
    }

    int item(int sheet, int sort, int i) {
        place(sheet);
        bad(in(sort, 0, 3));
        Object row = row(sheet);
        check(sortOf(row) == sort, -13);
        check(in(i, 0, sizeOf(row) - 1), -12);
        return (int) itemOf(row, i);
    }

    int shelf(int shelf, int what, int n) {
        place(shelf);
        bad(in(what, 0, 2));
        if (what == 0) {
            now.one(n);
        }
        shelves[shelf] = what == 0 ? (Object) n : what == 1 ? sheets[place(n)] : null;
        return 1;
    }

    private Object on(int shelf) {
        Object held = shelves[shelf];
        if (held instanceof Integer) {
            int n = (Integer) held;
            return n < now.people.size() ? now.people.get(n) : null;
        }
        return held;
    }

    int taken(int shelf, int as) {
        place(shelf);
        bad(in(as, 0, 5) || in(as, 10, 13));
        Object held = on(shelf);
        check(held != null, -11);
        if (as >= 10) {
            check(!(held instanceof Buyer) && sortOf(held) == as - 10, -13);
            return sizeOf(held);
        }
        check(ofKind(as).getClass().isInstance(held), -13);
        return now.people.indexOf(held);
    }

    int act(int shelf, int act, int x) {
        trace = new ArrayList<>();
        if (!in(shelf, 0, 3) || !in(act, 0, 3) || !(on(shelf) instanceof Buyer)) {
            return 0;
        }
        Buyer one = (Buyer) on(shelf);
        one.n = now.people.indexOf(one);
        one.trace = trace;
        switch (act) {
            case 0: return one.sees(x);
            case 1: return one.pays(x);
            case 2: return one.parts(x);
            default: return one.turns(x);
        }
    }

    int trace(int i) {
        check(in(i, 0, Math.min(30, trace.size()) - 1), -3);
        return trace.get(i);
    }

    int many(int what) {
        bad(in(what, 0, 6));
        return new int[] {now.people.size(), Integer.bitCount(now.onSteps()),
            Integer.bitCount(now.set(p -> p.coins > 0)), Integer.bitCount(now.set(p -> p.wears(now) > 0)),
            rows.length, tape.size(), Math.min(30, trace.size())}[what];
    }

    int keep() {
        keptState = now.copy();
        return 1;
    }

    int again() {
        check(keptState != null, -3);
        now = keptState.copy();
        return now.people.size();
    }
}
