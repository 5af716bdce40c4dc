import java.lang.reflect.InvocationTargetException;
import java.lang.reflect.Method;
import java.lang.reflect.Modifier;
import java.util.Arrays;
import java.util.Comparator;
import java.util.Random;

/** Runs of 512 calls of every method with right and wrong numbers, the same each time, against PlainMarket. */
public final class RandomCallsTest {
    private static final int OBJECTS = 120;
    private static final int CALLS = 512;
    private static final int[] EDGES = {Integer.MIN_VALUE, Integer.MAX_VALUE, -2, 10, 20, 21, 30, 31, 40, 41, 60, 61, 98, 99, 100, 127,
        -128, 999, 9999, 10000, 1 << 30};
    private static final String[] WORDS = {"buyer", "wife", "magistrate", "knitter", "clerk", "uncle", "buyer truth 0",
        "clerk truth 3", "wife truth 44 wish 55 web 66 coins 77", "uncle coins 999", "truth", "wish 5", "web 99", "coins 0",
        "weft 9", "fray 0", "toll 4", "slip 50", "slip", "100", "7", "0007", "x", "!", "buyer buyer", "knitter web 9"};

    private final Due due = new Due("RandomCallsTest");
    private final Random random = new Random(20261118);
    private WoolMarket market;
    private PlainMarket plain;

    public static void main(String[] args) throws ReflectiveOperationException {
        RandomCallsTest test = new RandomCallsTest();
        Method[] methods = test.faceMethods();
        for (int object = 0; object < OBJECTS; object++) {
            test.market = new WoolMarket();
            test.plain = new PlainMarket();
            test.runOfCalls(methods);
        }
        test.due.end();
    }

    private Method[] faceMethods() {
        Method[] methods = Arrays.stream(WoolMarket.class.getDeclaredMethods())
            .filter(m -> Modifier.isPublic(m.getModifiers())).toArray(Method[]::new);
        Arrays.sort(methods, Comparator.comparing(Method::getName));
        due.is("how many methods", methods.length, 44);
        return methods;
    }

    private void runOfCalls(Method[] methods) throws ReflectiveOperationException {
        int calls = 0;
        boolean isPeopled = random.nextInt(8) > 0;
        for (int i = 0; isPeopled && i < 1 + random.nextInt(8); i++) {
            call("person", random.nextInt(6), small(), small(), random.nextInt(100));
            calls++;
        }
        while (calls < CALLS - 30) {
            Method method = methods[random.nextInt(methods.length)];
            if (method.getName().equals("market") && random.nextInt(3) > 0) {
                calls += feedText();
            } else {
                calls++;
                call(method.getName(), argumentsOf(method));
            }
        }
    }

    private int feedText() throws ReflectiveOperationException {
        StringBuilder text = new StringBuilder();
        for (int i = random.nextInt(9); i > 0; i--) {
            text.append(WORDS[random.nextInt(random.nextInt(3) > 0 ? 10 : WORDS.length)]);
            text.append(random.nextInt(6) > 0 ? ";" : random.nextBoolean() ? " ;  " : " ");
        }
        int calls = 1;
        for (int from = 0; from < text.length() && calls < 26; from += 8, calls++) {
            long eight = 0;
            int n = Math.min(8, text.length() - from);
            for (int i = 0; i < n; i++) {
                eight |= (long) text.charAt(from + i) << (8 * i);
            }
            call("feed", eight, n);
        }
        call("market");
        return calls;
    }

    private Object[] argumentsOf(Method method) {
        Class<?>[] types = method.getParameterTypes();
        Object[] arguments = new Object[types.length];
        boolean isWild = random.nextInt(8) == 0;
        for (int i = 0; i < types.length; i++) {
            arguments[i] = types[i] == long.class ? (Object) random.nextLong() : isWild ? wild() : likely(method.getName(), i);
        }
        return arguments;
    }

    /** A number that mostly stands where this one is asked. */
    private int likely(String name, int i) {
        String place = name + i;
        switch (place) {
            case "set1": case "mind2": case "change2": case "put2": case "alterRow2": case "act2": case "wishFor2":
                return random.nextBoolean() ? small() : random.nextInt(256) - 128;
            case "person1": case "person2": case "person3": case "purse1": case "odds0": case "hope0": case "days0":
                return small();
            case "webFor1": case "kindFor1": case "wishFor1": case "changeFor1": case "lucky1":
                return 1 + random.nextInt(9);
            case "prove1": case "feed1": case "row0": case "trace0": case "item2": case "put1": case "sheet2": case "minds1":
                return random.nextInt(12) - 1;
            case "taken1":
                return random.nextBoolean() ? random.nextInt(6) : 10 + random.nextInt(4);
            default:
                return random.nextInt(6) - (random.nextInt(8) == 0 ? 1 : 0);
        }
    }

    private int small() {
        return random.nextInt(random.nextBoolean() ? 9 : 100);
    }

    private int wild() {
        return random.nextBoolean() ? EDGES[random.nextInt(EDGES.length)] : random.nextInt(12) - 2;
    }

    private void call(String name, Object... arguments) throws ReflectiveOperationException {
        Method of = method(WoolMarket.class, name);
        Method plainOne = method(PlainMarket.class, name, of.getParameterTypes());
        long want;
        try {
            want = ((Number) plainOne.invoke(plain, arguments)).longValue();
        } catch (InvocationTargetException e) {
            if (!(e.getCause() instanceof PlainMarket.Refused)) {
                throw e;
            }
            want = ((PlainMarket.Refused) e.getCause()).answer;
        }
        due.is(name + Arrays.toString(arguments), ((Number) of.invoke(market, arguments)).longValue(), want);
    }

    private static Method method(Class<?> type, String name, Class<?>... types) throws NoSuchMethodException {
        if (type == PlainMarket.class) {
            return type.getDeclaredMethod(name, types);
        }
        return Arrays.stream(type.getDeclaredMethods())
            .filter(m -> m.getName().equals(name) && Modifier.isPublic(m.getModifiers())).findFirst().orElseThrow();
    }
}
