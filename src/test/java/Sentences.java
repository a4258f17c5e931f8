import java.lang.reflect.Method;
import java.util.HashMap;
import java.util.Map;
import java.util.Set;

/**
 * Sentences of the document, each tested by a run of calls on a new object, told as a text: calls
 * are parted by ";" or by lines, "name numbers = answer"; "text SIGNS" says signs, "act SIGNS" says
 * them and has them done. A call without an answer is held against PlainBridge alone; one with an
 * answer against both, so that a wrong expectation shows.
 *
 * A twin object gets those calls alone that change something: behind the run it must be like the
 * first one in all that later calls show. So each run also tests that refused calls, and calls that
 * only tell, change nothing.
 */
final class Sentences {
    private static final Set<String> CHANGING = Set.of(
        "monk", "wear", "say", "wipe", "done", "load", "drop", "weighed", "forget", "image", "restore");
    private static final Map<String, Long> NAMES = Map.of(
        "UNKNOWN", -1L, "OUTSIDE", -2L, "STATE", -3L, "FULL", -4L, "NO", -5L, "NONE", -6L,
        "MIN", (long) Integer.MIN_VALUE, "MAX", (long) Integer.MAX_VALUE);
    private static final long GONE = -1000000000000000000L;
    private static final Map<String, Method> ON_BRIDGE = new HashMap<>();
    private static final Map<String, Method> ON_PLAIN = new HashMap<>();

    static {
        for (Method m : Bridge.class.getDeclaredMethods()) {
            ON_BRIDGE.put(m.getName(), m);
        }
        for (Method m : PlainBridge.class.getDeclaredMethods()) {
            ON_PLAIN.put(m.getName(), m);
        }
    }

    private int sentences = 0;
    private int broken = 0;

    private String sentence;
    private boolean holds;
    private Bridge x;
    private Bridge twin;
    private PlainBridge plain;

    void holds(String promiseAndSentence, String run) {
        sentence = promiseAndSentence;
        holds = true;
        x = new Bridge();
        twin = new Bridge();
        plain = new PlainBridge();
        sentences++;
        for (String line : run.split("[;\n]")) {
            if (!line.isBlank()) {
                step(line.strip());
            }
        }
        alikeFromHereOn();
        broken += holds ? 0 : 1;
    }

    void end() {
        System.out.println(broken == 0 ? sentences + " sentences hold" : broken + " of " + sentences + " sentences do not hold");
        if (broken != 0) {
            System.exit(1);
        }
    }

    private void step(String line) {
        int at = line.indexOf(" = ");
        String[] words = (at < 0 ? line : line.substring(0, at)).strip().split(" +");
        String due = at < 0 ? null : line.substring(at + 3).strip();
        if (words[0].equals("text") || words[0].equals("act")) {
            for (char sign : words[1].toCharArray()) {
                ask("say", new Object[] {(int) sign}, null);
            }
            if (words[0].equals("act")) {
                ask("done", new Object[0], due);
            }
            return;
        }
        Object[] numbers = new Object[words.length - 1];
        for (int i = 0; i < numbers.length; i++) {
            numbers[i] = (int) number(words[i + 1]);
        }
        ask(words[0], numbers, due);
    }

    private static long number(String word) {
        if (word.startsWith("GONE+")) {
            return GONE + number(word.substring(5));
        }
        return NAMES.containsKey(word) ? NAMES.get(word) : Long.parseLong(word);
    }

    private void ask(String name, Object[] numbers, String due) {
        long plainly = call(ON_PLAIN, plain, name, numbers);
        long want = due == null ? plainly : number(due);
        hold(name, numbers, call(ON_BRIDGE, x, name, numbers), want, "");
        hold(name, numbers, plainly, want, " by PlainBridge");
        if (CHANGING.contains(name) && want >= 0) {
            call(ON_BRIDGE, twin, name, numbers);
        }
    }

    private static long call(Map<String, Method> methods, Object on, String name, Object[] numbers) {
        try {
            return ((Number) methods.get(name).invoke(on, numbers)).longValue();
        } catch (ReflectiveOperationException e) {
            throw new IllegalStateException(name, e);
        }
    }

    private void hold(String name, Object[] numbers, long got, long want, String whose) {
        if (got != want && holds) {
            holds = false;
            System.out.println("promise " + sentence + ": " + name + java.util.Arrays.toString(numbers) + " answered "
                + got + whose + ", due is " + want);
        }
    }

    /** Ends the run on both objects: all that can be asked, then the text is done, then the images come back. */
    private void alikeFromHereOn() {
        alikeNow();
        alike("done");
        alikeNow();
        for (int n = 1; n >= 0; n--) {
            alike("restore", n);
            alikeNow();
        }
    }

    private void alikeNow() {
        for (int what = 0; what <= 43; what++) {
            if (what < 5 || what >= 10 && what % 10 < (what < 40 ? 6 : 4)) {
                alike("told", what);
            }
        }
        for (int rope = 0; rope < 4; rope++) {
            long locks = alike("told", 40 + rope);
            for (int lock = 0; lock < locks; lock++) {
                for (int what = 0; what < 3; what++) {
                    alike("lock", rope, lock, what);
                }
            }
        }
        for (int monk = 0; monk < 6; monk++) {
            alike("led", monk, 1);
        }
        for (int i = -1; i < 2; i++) {
            alike("best", i);
            alike("canBe", i);
        }
        alike("sure", 0);
        alike("sure", 1);
        alike("fault");
        alike("judge", 0);
        alike("judge", 1);
    }

    private long alike(String name, Object... numbers) {
        if (x.left() == 0 || twin.left() == 0) {
            return 0;
        }
        long want = call(ON_BRIDGE, twin, name, numbers);
        hold(name, numbers, call(ON_BRIDGE, x, name, numbers), want, " behind the run");
        return want;
    }
}
