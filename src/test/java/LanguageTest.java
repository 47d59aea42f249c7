import java.io.IOException;
import java.lang.reflect.Constructor;
import java.lang.reflect.Field;
import java.lang.reflect.Method;
import java.lang.reflect.Modifier;
import java.nio.file.Files;
import java.nio.file.Path;
import java.util.ArrayList;
import java.util.List;
import java.util.Set;
import java.util.TreeSet;
import java.util.regex.Matcher;
import java.util.regex.Pattern;

/** The rules of ../shared/LANGUAGE.md that can be seen from the file and the class alone. */
public final class LanguageTest {
    private static final Check CHECK = new Check();
    private static final String[] FACE = {
        "int type(char)", "int clearText()", "int readNetwork()", "int perform()", "int fold(int)",
        "int foldAll(boolean)", "int unfold(int)", "int note(int)", "int undo()", "int keep()",
        "int restore()", "int part(int,int)", "int arm(int,int)", "long resistance(int,int)",
        "long folded(int,int)", "long voltage(int,int)", "long reading(int,int)", "int loss(int)",
        "long noted(int,int)", "long solve(int,int,int,int)", "int fault(int,int,int)", "int worst()",
        "int count(int)"};

    public static void main(String[] args) throws IOException {
        String code = withoutComments(Files.readString(Path.of("src/main/java/LadderBench.java")));
        words(code);
        methodLengths(code);
        face();
        names();
        staticFields();
        CHECK.finish("LanguageTest");
    }

    /** Without comments, texts and characters too. */
    private static String withoutComments(String code) {
        return code.replaceAll("(?s)/\\*.*?\\*/", "").replaceAll("//[^\n]*", "")
                .replaceAll("\"[^\"\n]*\"", "\"\"").replaceAll("'[^'\n]'", "' '");
    }

    private static void words(String code) {
        String[] forbidden = {"throw", "throws", "try", "catch", "finally", "synchronized", "assert",
            "package", "import", "double", "float", "var", "yield", "volatile", "transient", "native",
            "Exception", "System", "equals", "hashCode", "toString"};
        for (String word : forbidden) {
            CHECK.due("the word " + word, Pattern.compile("\\b" + word + "\\b").matcher(code).find() ? 1 : 0, 0);
        }
        for (String sign : new String[] {"->", "::", "@"}) {
            CHECK.due("the sign " + sign, code.contains(sign) ? 1 : 0, 0);
        }
        Matcher library = Pattern.compile("\\b(?:Math|Integer|Long)\\.(\\w+)").matcher(code);
        while (library.find()) {
            CHECK.due(library.group(), Set.of("min", "max", "floorDiv", "bitCount").contains(library.group(1)) ? 1 : 0, 1);
        }
    }

    private static void methodLengths(String code) {
        int depth = 0;
        int lines = 0;
        for (String line : code.split("\n")) {
            boolean starts = line.matches("( {4}| {8})\\S.*\\) \\{");
            lines = starts ? 0 : lines + 1;
            depth = Math.max(depth, line.matches("( {4}| {8})\\}") ? lines : 0);
        }
        CHECK.due("a long method", depth > 60 ? depth : 0, 0);
    }

    private static void face() {
        Set<String> due = new TreeSet<>(List.of(FACE));
        Set<String> got = new TreeSet<>();
        for (Method method : LadderBench.class.getDeclaredMethods()) {
            if (!Modifier.isPrivate(method.getModifiers()) && !method.isSynthetic()) {
                List<String> taken = new ArrayList<>();
                for (Class<?> each : method.getParameterTypes()) {
                    taken.add(each.getSimpleName());
                }
                got.add(method.getReturnType().getSimpleName() + " " + method.getName()
                        + "(" + String.join(",", taken) + ")");
                CHECK.due(method + " is public", Modifier.isPublic(method.getModifiers()) ? 1 : 0, 1);
            }
        }
        CHECK.due("the face is as due: " + got, got.equals(due) ? 1 : 0, 1);
        Constructor<?>[] constructors = LadderBench.class.getDeclaredConstructors();
        CHECK.due("constructors", constructors.length, 1);
        CHECK.due("it takes", constructors[0].getParameterCount(), 0);
        CHECK.due("the class", LadderBench.class.getModifiers(), Modifier.PUBLIC | Modifier.FINAL);
        int constants = 0;
        for (Field field : LadderBench.class.getDeclaredFields()) {
            constants += Modifier.isPublic(field.getModifiers()) ? 1 : 0;
            int seen = field.getModifiers() & (Modifier.PUBLIC | Modifier.PRIVATE);
            CHECK.due(field + " is neither public nor private", seen == 0 ? 1 : 0, 0);
        }
        CHECK.due("constants", constants, 4);
    }

    private static void names() {
        Set<String> taken = new TreeSet<>();
        for (String each : FACE) {
            taken.add(each.replaceAll("^\\w+ (\\w+).*", "$1"));
        }
        List<Class<?>> all = new ArrayList<>(List.of(LadderBench.class.getDeclaredClasses()));
        CHECK.due("at most twelve classes", all.size() + 1 > 12 ? 1 : 0, 0);
        for (Class<?> inner : all) {
            CHECK.due(inner + " is static", Modifier.isStatic(inner.getModifiers()) ? 1 : 0, 1);
            CHECK.due(inner + " is not public", inner.getModifiers() & (Modifier.PUBLIC | Modifier.PROTECTED), 0);
            for (Method method : inner.getDeclaredMethods()) {
                CHECK.due(inner + " has " + method.getName(), taken.contains(method.getName()) ? 1 : 0, 0);
            }
        }
        for (Method method : LadderBench.class.getDeclaredMethods()) {
            if (Modifier.isPrivate(method.getModifiers())) {
                CHECK.due("private " + method.getName(), taken.contains(method.getName()) ? 1 : 0, 0);
            }
        }
    }

    private static void staticFields() {
        List<Class<?>> all = new ArrayList<>(List.of(LadderBench.class.getDeclaredClasses()));
        all.add(LadderBench.class);
        for (Class<?> each : all) {
            int own = 0;
            for (Field field : each.getDeclaredFields()) {
                if (Modifier.isStatic(field.getModifiers())) {
                    CHECK.due(field + " is final", Modifier.isFinal(field.getModifiers()) ? 1 : 0, 1);
                } else {
                    own++;
                }
            }
            CHECK.due("at most twenty fields in " + each, own > 20 ? own : 0, 0);
        }
    }
}
