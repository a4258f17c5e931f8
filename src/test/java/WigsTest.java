import java.util.Random;

/** Promises 20 to 24: weighings, wigs, years. */
public final class WigsTest {
    private static final Checks CHECKS = new Checks();

    private static void due(String call, long got, long want) {
        CHECKS.due(call, got, want);
    }

    public static void main(String[] args) {
        weighed();
        canBe();
        sure();
        ask();
        wigsByDraws();
        year();
        yearAtTheEdges();
        CHECKS.end();
    }

    private static void weighed() {
        Bridge x = new Bridge();
        due("21 none", x.forget(), 0);
        due("20 least", x.weighed(1, 0), 1);
        due("20 most", x.weighed(63, 240), 2);
        due("20 set below", x.weighed(0, 0), HairBridge.OUTSIDE);
        due("20 set above", x.weighed(64, 0), HairBridge.OUTSIDE);
        due("20 weight below", x.weighed(1, -1), HairBridge.OUTSIDE);
        due("20 weight above", x.weighed(1, 241), HairBridge.OUTSIDE);
        due("20 unchanged", x.told(4), 2);
        for (int n = 3; n <= 6; n++) {
            due("20 weighing " + n, x.weighed(n, n), n);
        }
        due("20 full", x.weighed(1, 1), HairBridge.FULL);
        due("20 outside ahead of full", x.weighed(0, 1), HairBridge.OUTSIDE);
        due("21 six", x.forget(), 6);
        due("21 gone", x.told(4), 0);
        due("21 all can be again", x.canBe(-1), 64);
        due("20 from the start", x.weighed(1, 1), 1);
    }

    private static void canBe() {
        Bridge x = new Bridge();
        due("22 all", x.canBe(-1), 64);
        for (int i = 0; i < 64; i++) {
            due("22 the " + i + "-th of all", x.canBe(i), i);
        }
        due("22 no more", x.canBe(64), HairBridge.NONE);
        due("22 below", x.canBe(-2), HairBridge.NONE);
        due("22 far below", x.canBe(Integer.MIN_VALUE), HairBridge.NONE);
        for (int m = 0; m < 6; m++) {
            x.monk(m, 0, 1 << Math.min(m, 5));
        }
        x.weighed(15, 9);
        due("22 A and D have hair of their own", x.canBe(-1), 4);
        int[] sets = {6, 22, 38, 54};
        for (int i = 0; i < 4; i++) {
            due("22 the " + i + "-th", x.canBe(i), sets[i]);
        }
        x.weighed(48, 32);
        due("22 both weighings", x.canBe(-1), 1);
        due("22 the one", x.canBe(0), 22);
        x.monk(0, 0, 2);
        due("22 hair as it is now", x.canBe(-1), 0);
        due("22 none", x.canBe(0), HairBridge.NONE);
        x.monk(0, 0, 0);
        x.forget();
        x.weighed(1, 0);
        due("22 no hair, a wig or not", x.canBe(-1), 64);
    }

    private static void sure() {
        Bridge x = new Bridge();
        due("23 none is sure", x.sure(0), 0);
        due("23 nobody is cleared", x.sure(1), 0);
        x.weighed(3, 0);
        x.weighed(12, 20);
        due("23 in each", x.sure(0), 3);
        due("23 in none", x.sure(1), 12);
        String before = Checks.look(x);
        due("23 what", x.sure(3), HairBridge.OUTSIDE);
        due("23 what below", x.sure(-1), HairBridge.OUTSIDE);
        CHECKS.holds("23 nothing changes", before.equals(Checks.look(x)));
        x.weighed(3, 10);
        due("23 none can be", x.sure(0), HairBridge.NO);
        due("23 none can be, in none", x.sure(1), HairBridge.NO);
        due("23 none can be, ask", x.sure(2), HairBridge.NO);
        due("23 outside ahead of no", x.sure(3), HairBridge.OUTSIDE);
    }

    private static void ask() {
        Bridge x = new Bridge();
        due("23 ask, all alike", x.sure(2), 31);
        for (int m = 0; m < 6; m++) {
            x.monk(m, 0, 1 << Math.min(m, 5));
        }
        due("23 ask, all sets weigh otherwise", x.sure(2), 63);
        x.monk(5, 0, 0);
        due("23 ask, one has no hair", x.sure(2), 31);
        x.weighed(5, 0);
        due("23 ask, two are known", x.sure(2), 26);
        x.weighed(58, 0);
        due("23 ask, nothing is left to part", x.sure(2), 1);
        x.forget();
        for (int m = 0; m < 6; m++) {
            x.monk(m, 0, 40);
        }
        due("23 ask, the greatest weight", x.sure(2), 31);
        x.weighed(63, 240);
        due("23 in none, the greatest weight", x.sure(1), 63);
    }

    /** One object asked again and again: nothing of one answer may be left for the next. */
    private static void wigsByDraws() {
        Random draws = new Random(23);
        Bridge x = new Bridge();
        PlainBridge y = new PlainBridge();
        for (int n = 0; n < 300; n++) {
            if (x.left() < 20) {
                x = new Bridge();
                y = new PlainBridge();
            }
            for (int m = 0; m < 6; m++) {
                int hair = draws.nextInt(n % 2 == 0 ? 5 : 41);
                x.monk(m, 0, hair);
                y.monk(m, 0, hair);
            }
            due("21 forget", x.forget(), y.forget());
            int wearers = draws.nextInt(64);
            for (int k = draws.nextInt(4); k > 0; k--) {
                int set = 1 + draws.nextInt(63);
                int weight = 0;
                for (int m = 0; m < 6; m++) {
                    weight += (set & ~wearers & 1 << m) != 0 ? y.told(10 + m) : 0;
                }
                due("20 weighed", x.weighed(set, weight), y.weighed(set, weight));
            }
            due("22 how many", x.canBe(-1), y.canBe(-1));
            for (int what = 0; what < 3; what++) {
                due("23 sure " + what, x.sure(what), y.sure(what));
            }
        }
    }

    private static void year() {
        Bridge x = new Bridge();
        String before = Checks.look(x);
        due("24 seed below", x.year(-1, 1, 0), HairBridge.OUTSIDE);
        due("24 seed above", x.year(10000, 1, 0), HairBridge.OUTSIDE);
        due("24 weeks below", x.year(0, 0, 0), HairBridge.OUTSIDE);
        due("24 weeks above", x.year(0, 61, 0), HairBridge.OUTSIDE);
        due("24 what below", x.year(0, 1, -1), HairBridge.OUTSIDE);
        due("24 what above", x.year(0, 1, 2), HairBridge.OUTSIDE);
        due("24 then", x.year(5, 20, 0), 30);
        due("24 at least", x.year(5, 20, 1), 0);
        due("24 the longest", x.year(9999, 60, 0), 25);
        CHECKS.holds("24 nothing is done in fact", before.equals(Checks.look(x)));
        Checks.act(x, "A-9A0");
        // by seed 0: 74, 5624, 28652, 51790, 17641, 12409; left over by 3: 2, 2, 2, 1, 1, 1
        due("24 a week wears", x.year(0, 1, 0), 40);
        due("24 a week, at least", x.year(0, 1, 1), 40);
        Checks.act(x, "B-4");
        due("24 of B to rope 5624 left over by 4", x.year(0, 1, 0), 60);
        x.monk(0, 1, 0);
        x.monk(1, 1, 4);
        due("24 strong as it is now", x.year(0, 1, 0), 16);
        due("24 still nothing is done", x.told(31), 4);
    }

    /** What he can not do is left out: bare heads, heads of 40, full ropes, a full basket. */
    private static void yearAtTheEdges() {
        for (int first = 0; first < 10000; first += 5000) {
            Bridge x = new Bridge();
            PlainBridge y = new PlainBridge();
            x.wear(0);
            y.wear(0);
            for (int m = 0; m < 6; m++) {
                int hair = m % 2 == 0 ? 0 : 40;
                x.monk(m, 0, hair);
                y.monk(m, 0, hair);
            }
            for (int seed = first; seed < first + 5000; seed += 37) {
                due("24 seed " + seed, x.year(seed, 60, 0), y.year(seed, 60, 0));
                due("24 seed " + seed + ", at least", x.year(seed, 60, 1), y.year(seed, 60, 1));
            }
        }
    }
}
