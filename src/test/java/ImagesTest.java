/** Promises 25 to 27: images, and what is told. */
public final class ImagesTest {
    private static final Checks CHECKS = new Checks();

    private static void due(String call, long got, long want) {
        CHECKS.due(call, got, want);
    }

    public static void main(String[] args) {
        images();
        keptAnew();
        pad();
        told();
        CHECKS.end();
    }

    private static Bridge some() {
        Bridge x = new Bridge();
        x.wear(2);
        x.monk(3, 1, 7);
        Checks.act(x, "A-5A0B-3B0D-9D3.C-4F+2E-1E2");
        x.load(10, 3);
        x.load(4, 8);
        x.weighed(5, 11);
        return x;
    }

    private static void changeAll(Bridge x) {
        x.wear(1);
        x.monk(3, 1, 0);
        x.monk(0, 0, 33);
        Checks.act(x, "B-1B3C0..A-9A0F-1");
        x.wipe();
        x.load(1, 1);
        x.weighed(63, 1);
    }

    private static void images() {
        Bridge x = some();
        due("25 outside", x.image(2), HairBridge.OUTSIDE);
        due("25 below", x.image(-1), HairBridge.OUTSIDE);
        due("26 outside", x.restore(2), HairBridge.OUTSIDE);
        due("26 below", x.restore(-1), HairBridge.OUTSIDE);
        due("26 it was not kept", x.restore(0), HairBridge.STATE);
        String first = Checks.look(x);
        due("25 kept", x.image(0), 1);
        CHECKS.holds("25 nothing else changes", first.equals(Checks.look(x)));
        due("26 the other one was not", x.restore(1), HairBridge.STATE);
        changeAll(x);
        String second = Checks.look(x);
        CHECKS.holds("it has changed", !first.equals(second));
        due("25 kept, too", x.image(1), 1);
        due("26 back", x.restore(0), 1);
        CHECKS.holds("26 as it was", first.equals(Checks.look(x)));
        due("26 the loads, too", x.best(-1), 11);
        changeAll(x);
        changeAll(x);
        due("26 back once more", x.restore(0), 1);
        CHECKS.holds("26 what came later is not in the image", first.equals(Checks.look(x)));
        due("26 the other one", x.restore(1), 1);
        CHECKS.holds("26 as it was then", second.equals(Checks.look(x)));
    }

    private static void keptAnew() {
        Bridge x = some();
        x.image(0);
        changeAll(x);
        x.image(1);
        x.drop();
        x.forget();
        String third = Checks.look(x);
        due("25 kept anew", x.image(0), 1);
        x.restore(1);
        CHECKS.holds("26 the other one is not changed by it", !third.equals(Checks.look(x)));
        x.restore(0);
        CHECKS.holds("25 the newer is kept", third.equals(Checks.look(x)));
    }

    private static void pad() {
        Bridge x = some();
        Checks.write(x, "A+1");
        x.image(0);
        Checks.write(x, "B+");
        due("26 back", x.restore(0), 1);
        due("25 the pad is not kept", x.told(0), 5);
        due("26 its signs stay", x.fault(), 5);
        x.wipe();
        x.restore(0);
        due("26 the pad stays empty", x.told(0), 0);
    }

    private static void told() {
        Bridge x = some();
        Checks.write(x, "..");
        int[] want = new int[60];
        java.util.Arrays.fill(want, HairBridge.OUTSIDE);
        int[] first = {2, 2, 1, 2, 1};
        int[] hair = {5, 7, 6, 1, 9, 12};
        int[] strong = {5, 5, 5, 7, 5, 5};
        int[] basket = {0, 0, 4, 0, 0, 0};
        int[] locks = {2, 0, 1, 1};
        System.arraycopy(first, 0, want, 0, 5);
        System.arraycopy(hair, 0, want, 10, 6);
        System.arraycopy(strong, 0, want, 20, 6);
        System.arraycopy(basket, 0, want, 30, 6);
        System.arraycopy(locks, 0, want, 40, 4);
        for (int what = 0; what < want.length; what++) {
            due("27 told " + what, x.told(what), want[what]);
        }
        due("27 below", x.told(-1), HairBridge.OUTSIDE);
        due("27 far below", x.told(Integer.MIN_VALUE), HairBridge.OUTSIDE);
        due("27 far above", x.told(Integer.MAX_VALUE), HairBridge.OUTSIDE);
    }
}
