import java.io.IOException;
import java.lang.reflect.Field;
import java.lang.reflect.Method;
import java.lang.reflect.Modifier;
import java.net.URL;
import java.net.URLClassLoader;
import java.nio.file.Files;
import java.nio.file.Path;
import java.util.ArrayList;
import java.util.Comparator;
import java.util.List;
import java.util.Set;
import java.util.TreeSet;
import java.util.regex.Matcher;
import java.util.regex.Pattern;
import java.util.stream.Stream;
import javax.tools.JavaCompiler;
import javax.tools.ToolProvider;

/** What README.md says is what the class does: its examples are compiled and run. */
public final class ReadmeTest {
    private static final Check CHECK = new Check();
    private static final Pattern BLOCK = Pattern.compile("(?s)```java\n(.*?)```");
    private static final Pattern CALL = Pattern.compile("(bench\\.\\w+\\(.*\\)); +// (-?\\d+|[A-Z_]+)\\b.*");
    private static final String CLASS = "ReadmeExamples";
    /** What an object answers later than this is free. */
    private static final int CALLS = 512;

    private final List<String> calls = new ArrayList<>();
    private final List<Long> due = new ArrayList<>();

    public static void main(String[] args) throws IOException, ReflectiveOperationException {
        String readme = Files.readString(Path.of("README.md"));
        constants(readme);
        methods(readme);
        tests(readme);
        new ReadmeTest().examples(readme);
        CHECK.finish("ReadmeTest");
    }

    private static List<String> rows(String readme, String pattern) {
        List<String> found = new ArrayList<>();
        Matcher row = Pattern.compile("(?m)^\\| " + pattern).matcher(readme);
        while (row.find()) {
            found.add(row.group(1));
        }
        return found;
    }

    private static void constants(String readme) throws ReflectiveOperationException {
        Set<String> got = new TreeSet<>(rows(readme, "(`[A-Z_]+` \\| -\\d+) \\|"));
        Set<String> want = new TreeSet<>();
        for (Field field : LadderBench.class.getDeclaredFields()) {
            if (Modifier.isPublic(field.getModifiers())) {
                want.add("`" + field.getName() + "` | " + field.getInt(null));
            }
        }
        CHECK.dueText("the constants", got.toString(), want.toString());
    }

    /** The table of calls has each method with as many arguments as it takes. */
    private static void methods(String readme) {
        Set<String> got = new TreeSet<>();
        for (String call : rows(readme, "`(\\w+\\([^)]*\\))`")) {
            String inner = call.substring(call.indexOf('(') + 1, call.length() - 1);
            got.add(call.substring(0, call.indexOf('(')) + " " + (inner.isEmpty() ? 0 : inner.split(", ").length));
        }
        Set<String> want = new TreeSet<>();
        for (Method method : LadderBench.class.getDeclaredMethods()) {
            if (Modifier.isPublic(method.getModifiers())) {
                want.add(method.getName() + " " + method.getParameterCount());
            }
        }
        CHECK.dueText("the calls", got.toString(), want.toString());
    }

    private static void tests(String readme) throws IOException {
        Set<String> got = new TreeSet<>(rows(readme, "(\\w+Test) \\|"));
        Set<String> want = new TreeSet<>();
        try (Stream<Path> files = Files.list(Path.of("src/test/java"))) {
            files.map(each -> each.getFileName().toString()).filter(each -> each.endsWith("Test.java"))
                    .forEach(each -> want.add(each.replace(".java", "")));
        }
        CHECK.dueText("the tests", got.toString(), want.toString());
    }

    private void examples(String readme) throws IOException, ReflectiveOperationException {
        StringBuilder helpers = new StringBuilder();
        StringBuilder body = new StringBuilder();
        Matcher block = BLOCK.matcher(readme);
        while (block.find()) {
            if (block.group(1).startsWith("static ")) {
                helpers.append(block.group(1));
            } else {
                body.append("{\n").append(example(block.group(1))).append("}\n");
            }
        }
        CHECK.due("there are examples", calls.isEmpty() ? 0 : 1, 1);
        List<?> got = answers("public final class " + CLASS + " {\n" + helpers
                + "public static java.util.List<Long> answers() {\n"
                + "java.util.List<Long> got = new java.util.ArrayList<>();\n" + body + "return got;\n}\n}\n");
        CHECK.due("answers", got.size(), calls.size());
        for (int i = 0; i < Math.min(got.size(), calls.size()); i++) {
            CHECK.due("README.md: " + calls.get(i), (Long) got.get(i), due.get(i));
        }
    }

    /** Each line makes the bench, writes a text, or calls and tells the answer. */
    private String example(String block) throws ReflectiveOperationException {
        StringBuilder lines = new StringBuilder();
        int used = 0;
        for (String line : block.split("\n")) {
            Matcher call = CALL.matcher(line);
            if (call.matches()) {
                calls.add(line);
                due.add(answer(call.group(2)));
                lines.append("got.add((long) ").append(call.group(1)).append(");\n");
                used++;
            } else {
                CHECK.due("a line that tells no answer: " + line, line.startsWith("bench.") ? 1 : 0, 0);
                lines.append(line).append('\n');
                // A text is typed by fewer calls than its line is long.
                used += line.length();
            }
        }
        CHECK.due("more than 512 calls of one bench", used > CALLS ? used : 0, 0);
        return lines.toString();
    }

    private static long answer(String told) throws ReflectiveOperationException {
        return told.matches("-?\\d+") ? Long.parseLong(told) : LadderBench.class.getField(told).getInt(null);
    }

    private static List<?> answers(String code) throws IOException, ReflectiveOperationException {
        Path folder = Files.createTempDirectory("readme");
        try {
            Path file = folder.resolve(CLASS + ".java");
            Files.writeString(file, code);
            JavaCompiler compiler = ToolProvider.getSystemJavaCompiler();
            int failed = compiler.run(null, null, null, "-cp", System.getProperty("java.class.path"),
                    "-d", folder.toString(), file.toString());
            CHECK.due("the examples compile", failed, 0);
            if (failed != 0) {
                return List.of();
            }
            try (URLClassLoader loader = new URLClassLoader(new URL[] {folder.toUri().toURL()})) {
                return (List<?>) loader.loadClass(CLASS).getMethod("answers").invoke(null);
            }
        } finally {
            remove(folder);
        }
    }

    private static void remove(Path folder) throws IOException {
        try (Stream<Path> files = Files.walk(folder)) {
            for (Path each : files.sorted(Comparator.reverseOrder()).toList()) {
                Files.delete(each);
            }
        }
    }
}
