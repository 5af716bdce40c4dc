import java.io.IOException;
import java.lang.reflect.Method;
import java.lang.reflect.Modifier;
import java.net.URL;
import java.net.URLClassLoader;
import java.nio.file.Files;
import java.nio.file.Path;
import java.util.ArrayList;
import java.util.Comparator;
import java.util.List;
import java.util.regex.Matcher;
import java.util.regex.Pattern;
import java.util.stream.Stream;
import javax.tools.ToolProvider;

/** What README.md tells: its rows of Java answer what stands behind them, and it names each call and each test. */
public final class ReadmeTest {
    private static final Pattern BLOCK = Pattern.compile("```java\n(.*?)```", Pattern.DOTALL);
    private static final Pattern ROW = Pattern.compile("(int \\w+ = )?(market\\.\\w+\\(.*\\)); +// (-?\\d+).*");

    private final Due due = new Due("ReadmeTest");
    private final List<String> asked = new ArrayList<>();
    private final List<Long> told = new ArrayList<>();

    public static void main(String[] args) throws IOException, ReflectiveOperationException {
        String page = Files.readString(Path.of("README.md"));
        ReadmeTest test = new ReadmeTest();
        test.examples(page);
        test.names(page);
        test.due.end();
    }

    private void examples(String page) throws IOException, ReflectiveOperationException {
        Path dir = Files.createTempDirectory("readme");
        try {
            long[] got = answers(dir, source(page));
            due.is("rows that tell an answer", Math.min(10, asked.size()), 10);
            for (int i = 0; i < asked.size(); i++) {
                due.is(asked.get(i), got[i], told.get(i));
            }
        } finally {
            remove(dir);
        }
    }

    /** All rows of Java in one method; each row that tells an answer puts what it got in an array. */
    private String source(String page) {
        StringBuilder rows = new StringBuilder();
        Matcher block = BLOCK.matcher(page);
        while (block.find()) {
            for (String line : block.group(1).split("\n")) {
                Matcher row = ROW.matcher(line);
                if (row.matches()) {
                    String put = "got[" + asked.size() + "] = " + row.group(2);
                    rows.append(row.group(1) == null ? put : row.group(1) + "(int) (" + put + ")").append(";\n");
                    asked.add(row.group(2));
                    told.add(Long.valueOf(row.group(3)));
                } else {
                    rows.append(line).append('\n');
                }
            }
        }
        return "public final class ReadmeRows {\npublic static long[] answers() {\nlong[] got = new long[" + asked.size() + "];\n"
            + rows + "return got;\n}\n}\n";
    }

    private static long[] answers(Path dir, String source) throws IOException, ReflectiveOperationException {
        Path file = Files.writeString(dir.resolve("ReadmeRows.java"), source);
        int failed = ToolProvider.getSystemJavaCompiler().run(null, System.out, System.out,
            "-d", dir.toString(), "-cp", System.getProperty("java.class.path"), file.toString());
        if (failed != 0) {
            throw new IllegalStateException("the rows of README.md do not compile:\n" + source);
        }
        try (URLClassLoader loader = new URLClassLoader(new URL[] {dir.toUri().toURL()})) {
            return (long[]) loader.loadClass("ReadmeRows").getMethod("answers").invoke(null);
        }
    }

    private static void remove(Path dir) throws IOException {
        try (Stream<Path> files = Files.walk(dir)) {
            for (Path file : files.sorted(Comparator.reverseOrder()).toList()) {
                Files.delete(file);
            }
        }
    }

    private void names(String page) throws IOException {
        for (Method method : WoolMarket.class.getDeclaredMethods()) {
            if (Modifier.isPublic(method.getModifiers())) {
                due.is("names " + method.getName(), page.contains("`" + method.getName() + "`") ? 1 : 0, 1);
            }
        }
        try (Stream<Path> files = Files.list(Path.of("src/test/java"))) {
            for (Path file : files.toList()) {
                String name = file.getFileName().toString().replace(".java", "");
                if (name.endsWith("Test") || name.endsWith("Edges")) {
                    due.is("has a row of " + name, page.contains("| `" + name + "` |") ? 1 : 0, 1);
                }
            }
        }
    }
}
