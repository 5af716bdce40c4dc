import java.lang.reflect.InvocationTargetException;
import java.lang.reflect.Method;
import java.util.ArrayList;
import java.util.Arrays;
import java.util.List;
import java.util.function.Consumer;

/**
 * Two markets made alike, of which one is asked something that changes nothing, a refusal most often: behind that both
 * must answer all calls alike. What is compared is all that can be asked, what is kept and what is on THE TAPE too.
 */
final class Twins {
    /** Stands for the argument that is outside. */
    static final long V = Long.MIN_VALUE;
    static final int PEOPLE = 5;

    private final Due due;
    private final Consumer<WoolMarket> before;

    Twins(Due due) {
        this(due, m -> { });
    }

    /** Before: what both are made to be, beyond what busy() makes them. */
    Twins(Due due, Consumer<WoolMarket> before) {
        this.due = due;
        this.before = before;
    }

    /** The call has this answer and changes nothing. */
    void answer(long want, String name, long... arguments) {
        WoolMarket asked = withTape();
        WoolMarket other = withTape();
        before.accept(asked);
        before.accept(other);
        String told = name + Arrays.toString(arguments);
        due.is(told, call(asked, name, arguments), want);
        areAlike(told, asked, other);
    }

    /** BAD for the first numbers outside of a range, on both sides, and for those farthest outside. */
    void outside(int least, int most, String name, long... arguments) {
        for (int v : new int[] {least - 1, most + 1, Integer.MIN_VALUE, Integer.MAX_VALUE}) {
            long[] withV = Arrays.stream(arguments).map(a -> a == V ? v : a).toArray();
            answer(WoolMarket.BAD, name, withV);
        }
    }

    void areAlike(String told, WoolMarket asked, WoolMarket other) {
        List<Long> got = allOf(asked);
        List<Long> want = allOf(other);
        due.is("how much is asked behind " + told, got.size(), want.size());
        for (int i = 0; i < Math.min(got.size(), want.size()); i++) {
            due.is(told + " changes nothing: what is asked then as number " + i, got.get(i), want.get(i));
        }
    }

    /** Five people and something in every other place but THE TAPE; SHEET 3 is missing, SHELF 3 holds nothing. */
    static WoolMarket busy() {
        WoolMarket m = Due.told("wife truth 30 wish 12 web 60;knitter truth 9 wish 40 web 80 coins 70;clerk truth 5 wish 70;"
            + "uncle truth 50 coins 0;magistrate truth 17 wish 3 web 44;weft 3;fray 2;toll 1;slip 40;");
        m.keep();
        m.seed(77);
        m.days(3);
        m.prove(1, 4);
        m.alterRow(2, 1, -5);
        m.sheet(0, 0, 5);
        m.put(0, 4, 77);
        m.sheet(1, 2, 3);
        m.put(1, 0, 123456);
        m.sheet(2, 3, 1);
        m.shelf(0, 0, 1);
        m.shelf(1, 1, 0);
        m.shelf(2, 0, 4);
        m.act(0, 1, 6);
        return m;
    }

    private static WoolMarket withTape() {
        WoolMarket m = busy();
        Due.feedText(m, "toll 9;uncle;");
        return m;
    }

    static long call(WoolMarket m, String name, long... arguments) {
        try {
            for (Method method : WoolMarket.class.getMethods()) {
                if (method.getName().equals(name) && method.getParameterCount() == arguments.length) {
                    return ((Number) method.invoke(m, boxed(method, arguments))).longValue();
                }
            }
        } catch (IllegalAccessException | InvocationTargetException e) {
            throw new IllegalStateException(name + Arrays.toString(arguments), e);
        }
        throw new IllegalStateException("no method " + name + " of " + arguments.length);
    }

    private static Object[] boxed(Method method, long[] arguments) {
        Object[] boxed = new Object[arguments.length];
        for (int i = 0; i < boxed.length; i++) {
            boxed[i] = method.getParameterTypes()[i] == long.class ? (Object) arguments[i] : (Object) (int) arguments[i];
        }
        return boxed;
    }

    /** Some 350 calls. THE TAPE and what is kept are asked by the calls that take their places, one behind the other. */
    private static List<Long> allOf(WoolMarket m) {
        List<Long> all = new ArrayList<>();
        for (int what = 0; what <= 6; what++) {
            all.add((long) m.many(what));
        }
        for (int i = 0; i < 12; i++) {
            all.add((long) m.row(i / 3, i % 3));
            all.add((long) m.trace(i));
        }
        for (int place = 0; place < 4; place++) {
            addSheet(m, place, all);
            for (int as : new int[] {0, 1, 2, 3, 4, 5, 10, 11, 12, 13}) {
                all.add((long) m.taken(place, as));
            }
        }
        addMarket(m, all);
        all.add((long) m.market());
        addMarket(m, all);
        all.add((long) m.again());
        addMarket(m, all);
        return all;
    }

    private static void addSheet(WoolMarket m, int sheet, List<Long> all) {
        for (int sort = 0; sort < 4; sort++) {
            for (int i = 0; i < 6; i++) {
                all.add((long) m.item(sheet, sort, i));
            }
        }
    }

    private static void addMarket(WoolMarket m, List<Long> all) {
        int people = m.many(0);
        all.add((long) people);
        all.add((long) m.state(0));
        all.add((long) m.state(1));
        for (int law = 0; law < 4; law++) {
            all.add((long) m.lawOf(law));
        }
        for (int i = 0; i < people * 5; i++) {
            all.add((long) m.of(i / 5, i % 5));
        }
        int z = m.seed(0);
        all.add((long) z);
        m.seed(z);
    }
}
