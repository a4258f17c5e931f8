import java.lang.reflect.Method;
import java.util.Arrays;
import java.util.Comparator;

/** Every call with every mix of numbers at, in and far beyond the bounds, on the class and on PlainBridge: no call throws. */
public final class EdgesTest {
    private static final int[] EDGES = {
        Integer.MIN_VALUE, Integer.MIN_VALUE + 1, -65536, -7, -2, -1, 0, 1, 2, 3, 4, 5, 6, 9, 10, 40, 41, 44, 60, 61, 63, 64,
        99, 100, 126, 127, 240, 241, 9999, 10000, 99999, 100000, Integer.MAX_VALUE - 1, Integer.MAX_VALUE};
    private static final int[] FEWER = {
        Integer.MIN_VALUE, -2, -1, 0, 1, 4, 9, 10, 63, 64, 9999, 10000, Integer.MAX_VALUE};

    private static final Checks CHECKS = new Checks();

    private static String start;
    private static Bridge x;
    private static PlainBridge y;

    public static void main(String[] args) throws Exception {
        Method[] methods = HairBridge.class.getDeclaredMethods();
        Arrays.sort(methods, Comparator.comparing(Method::getName));
        for (String text : new String[] {"", "A-5A0B-9B1B-1.", "A-1A0".repeat(8) + "C-9D-1"}) {
            start = text;
            startAnew();
            for (Method m : methods) {
                if (java.lang.reflect.Modifier.isPublic(m.getModifiers())) {
                    Method counted = Bridge.class.getDeclaredMethod(m.getName(), m.getParameterTypes());
                    Method plain = PlainBridge.class.getDeclaredMethod(m.getName(), m.getParameterTypes());
                    tryAll(counted, plain, new Object[m.getParameterCount()], 0);
                }
            }
        }
        CHECKS.end();
    }

    private static void startAnew() {
        x = new Bridge();
        y = new PlainBridge();
        for (char sign : start.toCharArray()) {
            x.say(sign);
            y.say(sign);
        }
        CHECKS.due("done", x.done(), y.done());
    }

    private static void tryAll(Method m, Method plain, Object[] numbers, int at) throws Exception {
        if (at == numbers.length) {
            if (x.left() == 0) {
                startAnew();
            }
            long got = ((Number) m.invoke(x, numbers)).longValue();
            long want = ((Number) plain.invoke(y, numbers)).longValue();
            CHECKS.due(m.getName() + Arrays.toString(numbers), got, want);
            return;
        }
        for (int v : numbers.length > 2 ? FEWER : EDGES) {
            numbers[at] = v;
            tryAll(m, plain, numbers, at + 1);
        }
    }
}
