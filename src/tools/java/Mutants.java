import java.io.File;
import java.nio.file.Files;
import java.nio.file.Path;
import java.util.ArrayList;
import java.util.List;
import java.util.concurrent.ExecutorService;
import java.util.concurrent.Executors;
import java.util.concurrent.Future;
import java.util.concurrent.TimeUnit;
import java.util.regex.Matcher;
import java.util.regex.Pattern;

/**
 * Breaks the class in one place at a time and runs tests on what comes out: which breaks does no test
 * see? Not run by .ci/run. From the project's root:
 *   java src/tools/java/Mutants.java MonksBoundsTest BridgeBoundsTest ..
 */
public final class Mutants {
    private static final Path CLASS = Path.of("src/main/java/HairBridge.java");
    private static final Path TESTS = Path.of("src/test/java");
    private static final int SECONDS = 60;

    private record Mutant(int line, String from, String to, String source) { }

    /** What is looked for, and what it becomes. */
    private static final String[][] RULES = {
        {"<=", "<"}, {"<=", "=="}, {">=", ">"}, {">=", "=="}, {"(?<![<>-])<(?![<=])", "<="}, {"(?<![->=])>(?![>=])", ">="},
        {"==", "!="}, {"!=", "=="}, {"&&", "||"}, {"\\|\\|", "&&"}, {"!(?=is|kept|holds|ropes)", ""},
        {"\\+\\+", "--"}, {"\\+=", "-="}, {"\\+=", "="}, {"-=", "+="}, {"&=", "|="}, {"\\|=", "&="}, {"\\|=", "="},
        {" \\+ ", " - "}, {" - ", " + "}, {" \\* ", " + "}, {" % ", " / "}, {"&(?= ~| \\()", "|"}, {"~", ""},
        {"Math\\.max", "Math.min"}, {"Math\\.min", "Math.max"}, {"\\bbreak;", ""}, {"\\? (\\w+) : (\\w+)\\b", "? $2 : $1"},
    };

    public static void main(String[] names) throws Exception {
        List<Mutant> mutants = all(Files.readString(CLASS));
        Path tests = compileTests(names);
        ExecutorService pool = Executors.newFixedThreadPool(Runtime.getRuntime().availableProcessors());
        List<Future<String>> answers = new ArrayList<>();
        for (Mutant m : mutants) {
            answers.add(pool.submit(() -> tryOne(m, tests, names)));
        }
        int seen = 0;
        int unseen = 0;
        int noClass = 0;
        for (int i = 0; i < mutants.size(); i++) {
            Mutant m = mutants.get(i);
            switch (answers.get(i).get()) {
                case "unseen" -> {
                    unseen++;
                    System.out.println("line " + m.line + ": " + m.from + "\n    became: " + m.to);
                }
                case "seen" -> seen++;
                default -> noClass++;
            }
        }
        pool.shutdown();
        clear(tests);
        System.out.println(seen + " were seen, " + unseen + " were not; " + noClass + " do not compile");
    }

    private static List<Mutant> all(String source) {
        List<Mutant> mutants = new ArrayList<>();
        String[] lines = source.split("\n", -1);
        for (int n = 0; n < lines.length; n++) {
            String line = lines[n];
            String bare = line.strip();
            if (bare.startsWith("//") || bare.startsWith("/*") || bare.startsWith("*") || bare.startsWith("import")) {
                continue;
            }
            for (String[] rule : RULES) {
                Matcher m = Pattern.compile(rule[0]).matcher(line);
                for (int at = 0; m.find(at); at = m.end()) {
                    StringBuilder to = new StringBuilder();
                    m.appendReplacement(to, rule[1]);
                    mutants.add(mutant(lines, n, m.appendTail(to).toString()));
                }
            }
            numbers(lines, n, mutants);
            if (bare.endsWith(";") && !bare.startsWith("return") && !bare.contains(" final ") && !bare.startsWith("final")
                    && !bare.startsWith("int ") && !bare.startsWith("boolean ")) {
                mutants.add(mutant(lines, n, line.substring(0, line.length() - bare.length()) + ";"));
            }
            if (bare.startsWith("return ") && bare.endsWith(";")) {
                mutants.add(mutant(lines, n, line.replace("return ", "return -(").replace(";", ");")));
            }
        }
        return mutants;
    }

    private static void numbers(String[] lines, int n, List<Mutant> mutants) {
        Matcher m = Pattern.compile("(?<![\\w'])\\d+(?![\\w'])").matcher(lines[n]);
        while (m.find()) {
            long v = Math.min(Integer.MAX_VALUE - 1, Long.parseLong(m.group()));
            for (long other : new long[] {v - 1, v + 1}) {
                mutants.add(mutant(lines, n, lines[n].substring(0, m.start()) + "(" + other + ")" + lines[n].substring(m.end())));
            }
        }
    }

    private static Mutant mutant(String[] lines, int n, String to) {
        String[] all = lines.clone();
        all[n] = to;
        return new Mutant(n + 1, lines[n].strip(), to.strip(), String.join("\n", all));
    }

    private static String tryOne(Mutant m, Path tests, String[] names) throws Exception {
        Path dir = Files.createTempDirectory("mutant");
        try {
            Path source = dir.resolve("HairBridge.java");
            Files.writeString(source, m.source);
            if (run(List.of("javac", "-J-XX:TieredStopAtLevel=1", "-nowarn", "-d", dir.toString(), source.toString())) != 0) {
                return "does not compile";
            }
            for (String name : names) {
                String path = dir + File.pathSeparator + tests;
                if (run(List.of("java", "-XX:TieredStopAtLevel=1", "-XX:+UseSerialGC", "-cp", path, name)) != 0) {
                    return "seen";
                }
            }
            return "unseen";
        } finally {
            clear(dir);
        }
    }

    /** The tests are compiled with the whole class: the constants that they name stay as they are. */
    private static Path compileTests(String[] names) throws Exception {
        Path dir = Files.createTempDirectory("tests");
        String sources = CLASS.getParent() + File.pathSeparator + TESTS;
        List<String> command = new ArrayList<>(List.of("javac", "-nowarn", "-d", dir.toString(), "-sourcepath", sources));
        for (String name : names) {
            command.add(TESTS.resolve(name + ".java").toString());
        }
        if (run(command) != 0) {
            throw new IllegalStateException("the tests do not compile");
        }
        return dir;
    }

    private static void clear(Path dir) throws Exception {
        try (var files = Files.walk(dir)) {
            files.sorted(java.util.Comparator.reverseOrder()).forEach(f -> f.toFile().delete());
        }
    }

    /** A break may make a loop without end: that is seen, too. */
    private static int run(List<String> command) throws Exception {
        Process p = new ProcessBuilder(command).redirectErrorStream(true).redirectOutput(ProcessBuilder.Redirect.DISCARD).start();
        if (!p.waitFor(SECONDS, TimeUnit.SECONDS)) {
            p.destroyForcibly().waitFor();
            return 1;
        }
        return p.exitValue();
    }
}
