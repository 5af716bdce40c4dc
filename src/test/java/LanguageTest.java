import java.io.IOException;
import java.lang.reflect.Constructor;
import java.lang.reflect.Field;
import java.lang.reflect.Method;
import java.lang.reflect.Modifier;
import java.nio.file.Files;
import java.nio.file.Path;
import java.util.Arrays;
import java.util.Set;
import java.util.TreeSet;
import java.util.regex.Matcher;
import java.util.regex.Pattern;
import java.util.stream.Collectors;

/** The face of the class, and those rules of LANGUAGE.md that can be seen from its text. */
public final class LanguageTest {
    private static final Due due = new Due("LanguageTest");
    private static final String[] FACE = {
        "int feed(long,int)", "int market()", "int set(int,int)", "int lawOf(int)", "int person(int,int,int,int)",
        "int of(int,int)", "int does(int,int)", "int looks(int,int,int)", "int mind(int,int,int)", "int change(int,int,int)",
        "int trade(int,int)", "int days(int)", "int seed(int)", "int day()", "int lucky(int,int)", "int state(int)",
        "int purse(int,int)", "int steps(int)", "int all()", "int poor(int)", "int webFor(int,int)", "int kindFor(int,int)",
        "int wishFor(int,int,int)", "int changeFor(int,int)", "int fair(int)", "int paired()", "int fits(int,int,int)",
        "long odds(int,int,int)", "long hope(int,int)", "int prove(int,int)", "int row(int,int)", "int alterRow(int,int,int)",
        "int judge(int)", "int minds(int,int,int,int)", "int sheet(int,int,int)", "int put(int,int,int)",
        "int item(int,int,int)", "int shelf(int,int,int)", "int taken(int,int)", "int act(int,int,int)", "int trace(int)",
        "int many(int)", "int keep()", "int again()"};
    private static final String[] RULED_OUT = {"\\bimport\\b", "\\bpackage\\b", "\\bthrow\\b", "\\bthrows\\b", "\\btry\\b",
        "\\bcatch\\b", "\\bfinally\\b", "\\bsynchronized\\b", "\\bassert\\b", "\\bextends\\b", "\\bprotected\\b", "->", "::",
        "Exact\\b", "static \\{", "\\bObject\\b", "\\bSystem\\.(?!arraycopy)", "\\bjava\\.", "@", "\\bnew \\w+\\([^()]*\\) \\{",
        "hashCode", "toString", "\\binstanceof\\b", "while \\(true\\)", "for \\(;;\\)"};

    public static void main(String[] args) throws IOException {
        face();
        String source = Files.readString(Path.of("src/main/java/WoolMarket.java"));
        String code = withoutComments(source);
        for (String out : RULED_OUT) {
            due.is("ruled out: " + out, Pattern.compile(out).matcher(code).results().count(), 0);
        }
        due.is("signs above 127", source.chars().filter(c -> c > 127).count(), 0);
        due.is("classes, twelve at most", Math.max(12, Pattern.compile("\\bclass \\w+").matcher(code).results().count()), 12);
        privateNames(code);
        lengths(code);
        due.end();
    }

    private static void face() {
        Set<String> open = new TreeSet<>();
        for (Method m : WoolMarket.class.getDeclaredMethods()) {
            if (!Modifier.isPrivate(m.getModifiers()) && !m.isSynthetic()) {
                due.is("public " + m, m.getModifiers(), Modifier.PUBLIC);
                open.add(m.getReturnType() + " " + m.getName() + Arrays.stream(m.getParameterTypes())
                    .map(Class::getName).collect(Collectors.joining(",", "(", ")")));
            }
        }
        due.is("the methods of the face " + open, open.equals(new TreeSet<>(Arrays.asList(FACE))) ? 1 : 0, 1);
        int constants = 0;
        for (Field f : WoolMarket.class.getDeclaredFields()) {
            if (!Modifier.isPrivate(f.getModifiers())) {
                constants++;
                due.is("constant " + f, f.getModifiers(), Modifier.PUBLIC | Modifier.STATIC | Modifier.FINAL);
            }
        }
        due.is("constants", constants, 3);
        due.is("BAD", WoolMarket.BAD, -1);
        due.is("FULL", WoolMarket.FULL, -2);
        due.is("NONE", WoolMarket.NONE, -3);
        due.is("final", WoolMarket.class.getModifiers(), Modifier.PUBLIC | Modifier.FINAL);
        Constructor<?>[] constructors = WoolMarket.class.getDeclaredConstructors();
        due.is("constructors", constructors.length, 1);
        for (Class<?> c : WoolMarket.class.getDeclaredClasses()) {
            due.is("static " + c, c.getModifiers() & Modifier.STATIC, Modifier.STATIC);
            due.is("fields of " + c, Math.max(20, instanceFields(c)), 20);
        }
        due.is("fields", Math.max(20, instanceFields(WoolMarket.class)), 20);
    }

    private static long instanceFields(Class<?> c) {
        return Arrays.stream(c.getDeclaredFields()).filter(f -> !Modifier.isStatic(f.getModifiers())).count();
    }

    private static String withoutComments(String source) {
        return Pattern.compile("/\\*.*?\\*/", Pattern.DOTALL).matcher(source).replaceAll("").replaceAll("//.*", "");
    }

    private static void privateNames(String code) {
        Set<String> names = new TreeSet<>();
        for (String method : FACE) {
            names.add(method.substring(method.indexOf(' ') + 1, method.indexOf('(')));
        }
        Matcher m = Pattern.compile("(?m)^ +(private |static |final )*[\\w\\[\\]]+ (\\w+)\\([^;]*\\) \\{$").matcher(code);
        int seen = 0;
        while (m.find()) {
            seen++;
            due.is("a name of the face: " + m.group(2), names.contains(m.group(2)) ? 1 : 0, 0);
        }
        due.is("methods seen", Math.min(50, seen), 50);
    }

    /** A method begins at a row that ends with ') {' and ends at a brace as far in. */
    private static void lengths(String code) {
        String[] lines = code.split("\n");
        Pattern begin = Pattern.compile("^( {4}| {8})(?!return|if|for|while|switch|else)\\w.*\\) \\{$");
        int seen = 0;
        for (int i = 0; i < lines.length; i++) {
            Matcher m = begin.matcher(lines[i]);
            if (m.matches()) {
                seen++;
                int end = i;
                while (!lines[end].equals(m.group(1) + "}")) {
                    end++;
                }
                due.is("sixty lines at most: " + lines[i], Math.max(60, end - i), 60);
                due.is("seven parameters at most: " + lines[i], Math.max(6, lines[i].chars().filter(c -> c == ',').count()), 6);
            }
        }
        due.is("lengths seen", Math.min(90, seen), 90);
    }
}
