import java.lang.reflect.Method;
import java.lang.reflect.Modifier;
import java.nio.file.Files;
import java.nio.file.Path;
import java.util.ArrayList;
import java.util.List;
import java.util.Set;
import java.util.TreeSet;
import java.util.regex.Matcher;
import java.util.regex.Pattern;
import javax.tools.JavaCompiler;
import javax.tools.ToolProvider;

/**
 * What README.md shows of the class's answers is what the class answers: its blocks of Java become a
 * program, in which each line "call;  // answer: why" asks and holds. Run from the project's root.
 */
public final class ReadmeTest {
    private static final Checks CHECKS = new Checks();
    private static final Pattern BLOCK = Pattern.compile("(?s)```java\n(.*?)```");
    private static final Pattern SHOWN = Pattern.compile("(\\w.*\\));\\s+// (-?\\d+|[A-Z]+( \\+ [A-Z]+)?)(: .*)?");
    private static final Pattern ROW = Pattern.compile("\\| `([A-Z]+)` \\| (-?\\d+) \\|.*");

    public static void main(String[] args) throws Exception {
        String readme = Files.readString(Path.of("README.md"));
        runShown(readme);
        constants(readme);
        tests(readme);
        CHECKS.end();
    }

    /** Called by the program that is made of the README. */
    public static void due(String call, long got, long want) {
        CHECKS.due("README.md: " + call, got, want);
    }

    private static void runShown(String readme) throws Exception {
        StringBuilder helpers = new StringBuilder();
        StringBuilder calls = new StringBuilder();
        Set<String> shown = new TreeSet<>();
        Matcher block = BLOCK.matcher(readme);
        while (block.find()) {
            if (block.group(1).startsWith("static ")) {
                helpers.append(block.group(1));
            } else {
                block.group(1).lines().forEach(line -> calls.append(asked(line, shown)).append('\n'));
            }
        }
        for (Method m : HairBridge.class.getDeclaredMethods()) {
            boolean isHidden = !Modifier.isPublic(m.getModifiers()) || m.getName().equals("say");
            CHECKS.holds("README.md shows an answer of " + m.getName(), isHidden || shown.contains(m.getName()));
        }
        run("public final class Shown {\n" + helpers + "public static void main(String[] args) {\n" + calls + "}\n}\n");
    }

    private static String asked(String line, Set<String> shown) {
        Matcher answer = SHOWN.matcher(line);
        if (!answer.matches()) {
            CHECKS.holds("README.md tells what is answered: " + line, !line.contains("bridge."));
            return line;
        }
        String call = answer.group(1);
        if (call.startsWith("bridge.")) {
            shown.add(call.substring("bridge.".length(), call.indexOf('(')));
        }
        String want = answer.group(2).replaceAll("([A-Z]+)", "HairBridge.$1");
        return "ReadmeTest.due(\"" + call.replace("\"", "\\\"") + "\", " + call + ", " + want + ");";
    }

    private static void run(String program) throws Exception {
        Path room = Files.createTempDirectory("readme");
        Path source = room.resolve("Shown.java");
        Files.writeString(source, program);
        JavaCompiler compiler = ToolProvider.getSystemJavaCompiler();
        String classes = System.getProperty("java.class.path");
        int rc = compiler.run(null, null, null, "-cp", classes, "-d", room.toString(), source.toString());
        CHECKS.due("README.md compiles", rc, 0);
        if (rc == 0) {
            try (java.net.URLClassLoader loader = new java.net.URLClassLoader(new java.net.URL[] {room.toUri().toURL()})) {
                loader.loadClass("Shown").getMethod("main", String[].class).invoke(null, (Object) new String[0]);
            }
        }
        for (String name : new String[] {"Shown.class", "Shown.java", ""}) {
            Files.deleteIfExists(room.resolve(name));
        }
    }

    private static void constants(String readme) throws Exception {
        List<String> found = new ArrayList<>();
        for (String line : readme.split("\n")) {
            Matcher row = ROW.matcher(line);
            if (row.matches()) {
                long value = ((Number) HairBridge.class.getField(row.group(1)).get(null)).longValue();
                CHECKS.due("README.md: " + row.group(1), value, Long.parseLong(row.group(2)));
                found.add(row.group(1));
            }
        }
        CHECKS.due("README.md: constants", found.size(), 7);
    }

    private static void tests(String readme) throws Exception {
        try (var files = Files.list(Path.of("src/test/java"))) {
            for (Path file : (Iterable<Path>) files::iterator) {
                String name = file.getFileName().toString().replace(".java", "");
                CHECKS.holds("README.md tells of " + name, !name.endsWith("Test") || readme.contains("`" + name + "`"));
            }
        }
    }
}
