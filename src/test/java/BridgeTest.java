import java.util.Random;

/** Promises 10 to 14: power, what the bridge bears, what breaks, shares, inches. */
public final class BridgeTest {
    private static final Checks CHECKS = new Checks();

    private static void due(String call, long got, long want) {
        CHECKS.due(call, got, want);
    }

    public static void main(String[] args) {
        power();
        bears();
        bearsByLoads();
        broken();
        share();
        led();
        CHECKS.end();
    }

    /** Ropes of these powers: each rope has a lock of one monk, of one inch's strength each. */
    private static Bridge withPowers(int a, int b, int c, int d) {
        Bridge x = new Bridge();
        int[] powers = {a, b, c, d};
        for (int r = 0; r < 4; r++) {
            x.monk(r, 1, 1);
            x.monk(r, 0, 40);
            char name = (char) ('A' + r);
            int left = powers[r];
            while (left > 0) {
                int cut = Math.min(9, left);
                Checks.act(x, name + "-" + cut);
                left -= cut;
            }
            if (powers[r] > 0) {
                Checks.act(x, "" + name + r);
            }
        }
        return x;
    }

    private static void power() {
        Bridge x = new Bridge();
        Checks.act(x, "A-3A0B-4B0A-2A1");
        x.monk(0, 1, 9);
        x.monk(1, 1, 2);
        due("10 two monks", x.power(0), 35);
        due("10 one monk", x.power(1), 18);
        due("10 no locks", x.power(2), 0);
        x.monk(0, 1, 0);
        due("10 strong as it is now", x.power(0), 8);
        due("10 of no strength", x.power(1), 0);
        due("10 no rope", x.power(4), HairBridge.UNKNOWN);
        due("10 no rope -1", x.power(-1), HairBridge.UNKNOWN);
    }

    private static void bears() {
        due("11 none", new Bridge().bears(), 0);
        due("11 one rope", withPowers(0, 7, 0, 0).bears(), 7);
        due("11 four alike", withPowers(5, 5, 5, 5).bears(), 20);
        due("11 one strong", withPowers(30, 5, 5, 5).bears(), 30);
        due("11 two of three", withPowers(10, 9, 2, 0).bears(), 18);
        due("11 three of four", withPowers(10, 8, 7, 1).bears(), 21);
        due("11 any rope may be the weak one", withPowers(1, 7, 10, 8).bears(), 21);
        Bridge x = withPowers(10, 10, 0, 0);
        x.monk(1, 1, 0);
        due("11 a rope of no power holds nothing", x.bears(), 10);
    }

    /** BEARS by its own words: loads are put on one by one until the bridge falls. */
    private static void bearsByLoads() {
        Random draws = new Random(11);
        for (int n = 0; n < 200; n++) {
            int[] p = new int[4];
            int whole = 0;
            for (int r = 0; r < 4; r++) {
                p[r] = draws.nextInt(3) == 0 ? 0 : draws.nextInt(25);
                whole |= p[r] > 0 ? 1 << r : 0;
            }
            Bridge x = withPowers(p[0], p[1], p[2], p[3]);
            int load = 0;
            while (whole != 0 && x.broken(load + 1) != whole) {
                load++;
            }
            due("11 loads one by one", x.bears(), load);
        }
    }

    private static void broken() {
        Bridge x = withPowers(12, 6, 5, 1);
        due("12 no load", x.broken(0), 0);
        due("12 each holds a share", x.broken(4), 0);
        due("12 one breaks, by a fraction", x.broken(5), 8);
        due("12 three hold", x.broken(15), 8);
        due("12 one behind the other", x.broken(16), 15);
        due("12 the strongest is left", withPowers(30, 6, 5, 1).broken(16), 14);
        due("12 two at once", withPowers(9, 2, 9, 2).broken(12), 10);
        due("12 one rope holds all", x.broken(12), 8);
        due("12 all break", x.broken(99999), 15);
        Bridge y = withPowers(12, 0, 5, 0);
        due("12 two hold", y.broken(10), 0);
        due("12 one breaks, one holds", y.broken(12), 4);
        due("12 falls", y.broken(13), 5);
        due("12 ropes without power do not break", y.broken(50000), 5);
        due("12 no ropes", new Bridge().broken(1), 0);
        due("12 below", x.broken(-1), HairBridge.OUTSIDE);
        due("12 above", x.broken(100000), HairBridge.OUTSIDE);
    }

    private static void share() {
        long gone = HairBridge.GONE;
        Bridge x = new Bridge();
        due("13 no power", x.share(0, 0), gone + HairBridge.STATE);
        due("13 no monk", x.share(6, 0), gone + HairBridge.UNKNOWN);
        due("13 no monk -1", x.share(-1, 2), gone + HairBridge.UNKNOWN);
        due("13 outside ahead of state", x.share(0, 2), gone + HairBridge.OUTSIDE);
        due("13 below", x.share(0, -1), gone + HairBridge.OUTSIDE);
        Checks.act(x, "A-4A0B-2B0A-2A3C-4C1");
        due("13 lowest terms, upper", x.share(0, 0), 1);
        due("13 lowest terms, lower", x.share(0, 1), 2);
        due("13 a sixth, upper", x.share(1, 0), 1);
        due("13 a sixth, lower", x.share(1, 1), 6);
        due("13 nothing, upper", x.share(5, 0), 0);
        due("13 nothing, lower", x.share(5, 1), 1);
        x.monk(0, 1, 0);
        x.monk(2, 1, 0);
        due("13 all of it, upper", x.share(1, 0), 1);
        due("13 all of it, lower", x.share(1, 1), 1);
        due("13 inches without strength", x.share(0, 0), 0);
        x.monk(1, 1, 0);
        due("13 inches, but no power", x.share(1, 0), gone + HairBridge.STATE);
    }

    private static void led() {
        Bridge x = new Bridge();
        x.wear(2);
        Checks.act(x, "A-3A0B-4B0A-1A2C-5C2B-2");
        due("14 in two ropes", x.led(0, 0), 4);
        due("14 the basket does not count", x.led(1, 0), 4);
        due("14 nothing worn", x.led(0, 1), 0);
        Checks.act(x, ".");
        due("14 led behind a week", x.led(0, 0), 1);
        due("14 worn in two ropes", x.led(0, 1), 3);
        due("14 worn behind another lock", x.led(2, 1), 1);
        due("14 led of the third", x.led(2, 0), 4);
        Checks.act(x, "...");
        due("14 worn for good", x.led(0, 1), 4);
        due("14 no more than there was", x.led(2, 1), 5);
        due("14 worn of the second", x.led(1, 1), 4);
        due("14 led of the second", x.led(1, 0), 0);
        due("14 no monk", x.led(6, 0), HairBridge.UNKNOWN);
        due("14 no monk -1", x.led(-1, 5), HairBridge.UNKNOWN);
        due("14 what", x.led(0, 2), HairBridge.OUTSIDE);
        due("14 what below", x.led(0, -1), HairBridge.OUTSIDE);
    }
}
