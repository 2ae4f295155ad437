import java.io.IOException;
import java.lang.reflect.Field;
import java.lang.reflect.Method;
import java.lang.reflect.Modifier;
import java.net.URL;
import java.net.URLClassLoader;
import java.nio.file.Files;
import java.nio.file.Path;
import java.util.ArrayList;
import java.util.Arrays;
import java.util.Collections;
import java.util.List;
import java.util.TreeSet;
import java.util.regex.Matcher;
import java.util.regex.Pattern;
import java.util.stream.Collectors;
import java.util.stream.Stream;
import javax.tools.JavaCompiler;
import javax.tools.ToolProvider;

/** What README.md says of the class and of its tests holds: its examples are compiled and run, its lists are whole. */
public final class ReadmeTest {
    private static final Path TESTS = Path.of("src/test/java");
    private static final Pattern CALL = Pattern.compile("(.*\\));\\s*// (-?\\d+)(:.*)?");
    private static final Checks c = new Checks();
    private static int examples = 0;

    public static void main(String[] args) throws IOException, ReflectiveOperationException {
        String readme = Files.readString(Path.of("README.md"));
        examplesAnswerAsWritten(readme);
        allCallsAreThere(readme);
        constantsAreThere(readme);
        allTestsAreThere(readme);
        c.end();
    }

    private static void examplesAnswerAsWritten(String readme) throws IOException, ReflectiveOperationException {
        List<Object[]> answers = answersOf(classOfExamples(readme));
        c.holds("there are examples", examples > 0 && answers.size() == examples);
        TreeSet<String> used = new TreeSet<>();
        for (Object[] a : answers) {
            c.due("README: " + a[0], (Integer) a[1], (Integer) a[2]);
            Matcher name = Pattern.compile("wheel\\.(\\w+)\\(").matcher((String) a[0]);
            if (name.find()) {
                used.add(name.group(1));
            }
        }
        // calm is in the table alone, write in the helper of the page
        for (String name : namesOfCalls()) {
            c.holds("README uses " + name, used.contains(name) || name.equals("write") || name.equals("calm"));
        }
    }

    /** Blocks that begin a method stay as they are; each other block becomes one, whose calls are noted with what is due. */
    private static String classOfExamples(String readme) {
        StringBuilder members = new StringBuilder();
        StringBuilder calls = new StringBuilder();
        Matcher blocks = Pattern.compile("(?s)```java\\n(.*?)```").matcher(readme);
        for (int k = 0; blocks.find(); k++) {
            String block = blocks.group(1);
            if (block.startsWith("static ")) {
                members.append(block);
            } else {
                members.append("static void example").append(k).append("() {\n").append(noted(block)).append("}\n");
                calls.append("example").append(k).append("();\n");
            }
        }
        return "public class Examples {\n"
            + "public static final java.util.List<Object[]> ANSWERS = new java.util.ArrayList<>();\n"
            + "static void note(String call, int got, int due) { ANSWERS.add(new Object[] {call, got, due}); }\n"
            + members + "public static void runAll() {\n" + calls + "}\n}\n";
    }

    private static String noted(String block) {
        StringBuilder noted = new StringBuilder();
        for (String line : block.split("\n")) {
            Matcher call = CALL.matcher(line);
            if (call.matches()) {
                examples++;
                String words = call.group(1).strip().replace("\"", "\\\"");
                noted.append("note(\"").append(words).append("\", ").append(call.group(1)).append(", ")
                    .append(call.group(2)).append(");\n");
            } else {
                c.holds("a line without a due answer makes the object: " + line, line.equals("NorthWheel wheel = new NorthWheel();"));
                noted.append(line).append("\n");
            }
        }
        return noted.toString();
    }

    private static List<Object[]> answersOf(String source) throws IOException, ReflectiveOperationException {
        Path out = Files.createTempDirectory("examples");
        Path file = Files.writeString(out.resolve("Examples.java"), source);
        JavaCompiler compiler = ToolProvider.getSystemJavaCompiler();
        String path = System.getProperty("java.class.path");
        c.due("README's examples compile", compiler.run(null, null, null, "-cp", path, "-d", out.toString(), file.toString()), 0);
        List<Object[]> answers = new ArrayList<>();
        try (URLClassLoader loader = new URLClassLoader(new URL[] {out.toUri().toURL()})) {
            Class<?> made = loader.loadClass("Examples");
            made.getMethod("runAll").invoke(null);
            for (Object answer : (List<?>) made.getField("ANSWERS").get(null)) {
                answers.add((Object[]) answer);
            }
        }
        remove(out);
        return answers;
    }

    private static void remove(Path folder) throws IOException {
        try (Stream<Path> inside = Files.list(folder)) {
            for (Path file : inside.collect(Collectors.toList())) {
                Files.delete(file);
            }
        }
        Files.delete(folder);
    }

    private static List<String> namesOfCalls() {
        List<String> names = new ArrayList<>();
        for (Method m : NorthWheel.class.getDeclaredMethods()) {
            if (Modifier.isPublic(m.getModifiers())) {
                names.add(m.getName());
            }
        }
        return names;
    }

    private static void allCallsAreThere(String readme) {
        List<String> told = new ArrayList<>();
        Matcher rows = Pattern.compile("(?m)^\\| `(\\w+)\\(([^)]*)\\)` \\| \\S.* \\|$").matcher(readme);
        while (rows.find()) {
            told.add(rows.group(1) + "(" + rows.group(2).replaceAll(" \\w+(, )?", "$1") + ")");
        }
        List<String> are = new ArrayList<>();
        for (Method m : NorthWheel.class.getDeclaredMethods()) {
            if (Modifier.isPublic(m.getModifiers())) {
                are.add(m.getName() + Arrays.stream(m.getParameterTypes()).map(Class::getName)
                    .collect(Collectors.joining(", ", "(", ")")));
            }
        }
        Collections.sort(told);
        Collections.sort(are);
        c.holds("the table has all calls: " + told, told.equals(are));
    }

    private static void constantsAreThere(String readme) throws ReflectiveOperationException {
        for (Field f : NorthWheel.class.getFields()) {
            c.holds("the table has " + f.getName(), readme.contains("| " + f.getInt(null) + " | `" + f.getName() + "` |"));
        }
    }

    private static void allTestsAreThere(String readme) throws IOException {
        TreeSet<String> are = new TreeSet<>();
        try (Stream<Path> files = Files.list(TESTS)) {
            files.forEach(f -> are.add(f.getFileName().toString().replace(".java", "")));
        }
        TreeSet<String> told = new TreeSet<>();
        Matcher names = Pattern.compile("`([A-Z]\\w+)`").matcher(readme.substring(readme.indexOf("## How to run the tests")));
        while (names.find()) {
            told.add(names.group(1));
        }
        c.holds("the list has all of " + are + ": " + told, told.equals(are));
        c.holds(".ci/run may be run", Files.isExecutable(Path.of(".ci/run")) && readme.contains("\n.ci/run\n"));
    }
}
