import java.lang.reflect.Constructor;
import java.lang.reflect.Field;
import java.lang.reflect.Method;
import java.lang.reflect.Modifier;
import java.nio.file.Files;
import java.nio.file.Path;
import java.util.ArrayList;
import java.util.List;
import java.util.Set;
import java.util.TreeSet;
import java.util.regex.Matcher;
import java.util.regex.Pattern;

/** The public face, and the rules of LANGUAGE.md that can be seen from outside or by words; run from the project's root. */
public final class FaceTest {
    private static final Checks CHECKS = new Checks();

    private static final String[] FACE = {
        "int monk(int, int, int)", "int wear(int)", "int say(int)", "int wipe()", "int fault()", "int judge(int)",
        "int done()", "int lock(int, int, int)", "int power(int)", "int bears()", "int broken(int)",
        "long share(int, int)", "int led(int, int)", "int load(int, int)", "int drop()", "int best(int)",
        "int renewed(int, int, int)", "int soon(int, int, int, int)", "int weighed(int, int)", "int forget()",
        "int canBe(int)", "int sure(int)", "int year(int, int, int)", "int image(int)", "int restore(int)",
        "int told(int)"};

    private static final String[] CONSTANTS = {
        "int UNKNOWN = -1", "int OUTSIDE = -2", "int STATE = -3", "int FULL = -4", "int NO = -5", "int NONE = -6",
        "long GONE = -1000000000000000000"};

    /** What the class takes of the library, of what rule 4 lists. */
    private static final Set<String> LIBRARY = Set.of(
        "System.arraycopy(", "Arrays.fill(", "Integer.bitCount(", "Integer.numberOfTrailingZeros(", "Math.max(", "Math.min(");
    private static final Pattern TAKEN = Pattern.compile(
        "\\b(System|Arrays|Integer|Long|Short|Byte|Character|Boolean|Double|Float|Math|StrictMath|String|List)\\s*\\.\\s*\\w+\\s*\\(?");

    private static final String[] FORBIDDEN = {
        "throw", "throws", "try", "catch", "synchronized", "assert", "package", "->", "::", "Exact", "System.out",
        "Random", "nanoTime", "currentTimeMillis", "Thread", "hashCode", "toString", "HashMap"};

    public static void main(String[] args) throws Exception {
        methods();
        others();
        words();
        sizes();
        CHECKS.end();
    }

    private static String told(Method m) {
        List<String> types = new ArrayList<>();
        for (Class<?> type : m.getParameterTypes()) {
            types.add(type.getSimpleName());
        }
        return m.getReturnType().getSimpleName() + " " + m.getName() + "(" + String.join(", ", types) + ")";
    }

    private static void methods() {
        Set<String> found = new TreeSet<>();
        Set<String> names = new TreeSet<>();
        for (String one : FACE) {
            names.add(one.substring(one.indexOf(' ') + 1, one.indexOf('(')));
        }
        for (Method m : HairBridge.class.getDeclaredMethods()) {
            if (Modifier.isPrivate(m.getModifiers())) {
                CHECKS.holds("private " + m.getName() + " has a name of its own", !names.contains(m.getName()));
            } else {
                CHECKS.due(m.getName() + " is public, no more", m.getModifiers(), Modifier.PUBLIC);
                found.add(told(m));
            }
        }
        CHECKS.holds("the methods are those of the document: " + found, found.equals(new TreeSet<>(List.of(FACE))));
    }

    private static void others() throws Exception {
        CHECKS.holds("final", Modifier.isFinal(HairBridge.class.getModifiers()));
        Constructor<?>[] constructors = HairBridge.class.getDeclaredConstructors();
        CHECKS.due("constructors", constructors.length, 1);
        CHECKS.holds("public constructor", Modifier.isPublic(constructors[0].getModifiers()));
        Set<String> constants = new TreeSet<>();
        for (Field f : HairBridge.class.getDeclaredFields()) {
            boolean isStatic = Modifier.isStatic(f.getModifiers());
            CHECKS.holds(f.getName() + " is final", !isStatic || Modifier.isFinal(f.getModifiers()));
            if (!Modifier.isPrivate(f.getModifiers())) {
                boolean isConstant = isStatic && Modifier.isPublic(f.getModifiers());
                CHECKS.holds(f.getName() + " is a public constant", isConstant);
                constants.add(f.getType() + " " + f.getName() + " = " + (isConstant ? f.get(null) : "?"));
            }
        }
        CHECKS.holds("the constants are those of the document", constants.equals(new TreeSet<>(List.of(CONSTANTS))));
        Class<?>[] inside = HairBridge.class.getDeclaredClasses();
        CHECKS.holds("not too many classes", inside.length <= 11);
        for (Class<?> one : inside) {
            int modifiers = one.getModifiers();
            CHECKS.holds(one + " is static", Modifier.isStatic(modifiers));
            CHECKS.holds(one + " is hidden", !Modifier.isPublic(modifiers) && !Modifier.isProtected(modifiers));
        }
    }

    private static void words() throws Exception {
        String source = Files.readString(Path.of("src/main/java/HairBridge.java"));
        String code = source.replaceAll("(?s)/\\*.*?\\*/", "").replaceAll("//[^\n]*", "");
        for (String word : FORBIDDEN) {
            boolean isName = Character.isLetter(word.charAt(0));
            String pattern = isName ? "(?s).*\\b" + word.replace(".", "\\.") + "\\b.*" : null;
            CHECKS.holds("no " + word, isName ? !code.matches(pattern) : !code.contains(word));
        }
        Matcher taken = TAKEN.matcher(code);
        while (taken.find()) {
            String one = taken.group().replaceAll("\\s", "");
            CHECKS.holds("rule 4 lists " + one, LIBRARY.contains(one));
        }
        CHECKS.holds("plain signs alone", source.chars().allMatch(c -> c == '\n' || c >= 32 && c < 127));
    }

    /** Rules 4, 5 and 11: what is taken from the library, static fields, how large classes and methods are. */
    private static void sizes() throws Exception {
        List<Class<?>> all = new ArrayList<>(List.of(HairBridge.class.getDeclaredClasses()));
        all.add(HairBridge.class);
        for (Class<?> one : all) {
            int fields = 0;
            for (Field f : one.getDeclaredFields()) {
                boolean isStatic = Modifier.isStatic(f.getModifiers());
                CHECKS.holds(one + " " + f.getName() + ", if static, is final", !isStatic || Modifier.isFinal(f.getModifiers()));
                fields += isStatic ? 0 : 1;
            }
            CHECKS.holds(one + " has at most twenty fields", fields <= 20);
            for (Method m : one.getDeclaredMethods()) {
                CHECKS.holds(m + " takes at most seven numbers", m.getParameterCount() <= 7);
            }
        }
        int since = 0;
        int number = 0;
        for (String line : Files.readAllLines(Path.of("src/main/java/HairBridge.java"))) {
            number++;
            CHECKS.holds("import: " + line, !line.startsWith("import") || line.equals("import java.util.Arrays;"));
            since = line.isBlank() ? number : since;
            CHECKS.holds("a method of at most sixty lines behind line " + since, number - since <= 60);
        }
    }
}
