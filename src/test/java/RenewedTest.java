import java.util.ArrayList;
import java.util.Arrays;
import java.util.List;
import java.util.Random;

/**
 * Promise 18 with three and four weeks and up to six monks in the basket, where RandomRunsTest does not
 * go: every way is tried, none left out. Numbers behind the name: how many abbeys, and the first's number.
 */
public final class RenewedTest {
    private static final Checks CHECKS = new Checks();
    private static final int NOT_FOUND = Integer.MAX_VALUE;

    private final Bridge x = new Bridge();
    private final Random draws;
    private final int[] strong = new int[6];
    private int weeks;
    private int need;
    private int wear;
    private int fewest = NOT_FOUND;
    private int[] first;

    private RenewedTest(long number) {
        draws = new Random(number);
    }

    public static void main(String[] args) {
        int abbeys = args.length > 0 ? Integer.parseInt(args[0]) : 400;
        long from = args.length > 1 ? Long.parseLong(args[1]) : 0;
        for (long number = from; number < from + abbeys; number++) {
            new RenewedTest(number).ask(number);
        }
        CHECKS.end();
    }

    private void ask(long number) {
        makeAbbey();
        List<List<int[]>> ropes = new ArrayList<>();
        for (int rope = 0; rope < 4; rope++) {
            List<int[]> locks = new ArrayList<>();
            for (int lock = 0; lock < x.told(40 + rope); lock++) {
                locks.add(new int[] {x.lock(rope, lock, 0), x.lock(rope, lock, 1)});
            }
            ropes.add(locks);
        }
        int[] basket = new int[6];
        for (int monk = 0; monk < 6; monk++) {
            strong[monk] = x.told(20 + monk);
            basket[monk] = x.told(30 + monk);
        }
        wear = x.told(1);
        weeks = draws.nextInt(5) == 0 ? 4 : 3;
        need = draws.nextInt(x.bears() + (draws.nextBoolean() ? 30 : 100));
        tryWeek(0, ropes, basket, 0, new int[weeks]);
        String call = "18: abbey " + number + ", renewed(" + weeks + ", " + need + ", ";
        boolean isFound = fewest != NOT_FOUND;
        CHECKS.due(call + "-1)", x.renewed(weeks, need, -1), isFound ? fewest : HairBridge.NONE);
        for (int i = 0; i < weeks; i++) {
            CHECKS.due(call + i + ")", x.renewed(weeks, need, i), isFound ? first[i] : HairBridge.NONE);
        }
    }

    /** Some locks, some hair in the basket, ropes of all lengths, full ones too. */
    private void makeAbbey() {
        for (int monk = 0; monk < 6; monk++) {
            x.monk(monk, 1, draws.nextInt(10));
        }
        int locks = draws.nextInt(14);
        int ropes = 1 + draws.nextInt(4);
        for (int lock = 0; lock < locks; lock++) {
            char monk = (char) ('A' + draws.nextInt(6));
            int rope = draws.nextInt(ropes);
            if (x.told(40 + rope) < 8) {
                pray(monk, 1);
                Checks.act(x, "" + monk + rope);
            }
        }
        for (char monk = 'A'; monk <= 'F'; monk++) {
            pray(monk, draws.nextInt(3));
        }
        x.wear(draws.nextInt(5));
    }

    private void pray(char monk, int times) {
        x.monk(monk - 'A', 0, 40);
        for (int i = 0; i < times; i++) {
            Checks.act(x, "" + monk + "-" + (1 + draws.nextInt(9)));
        }
    }

    private void tryWeek(int week, List<List<int[]>> ropes, int[] basket, int inches, int[] way) {
        if (week == weeks) {
            if (inches < fewest) {
                fewest = inches;
                first = way.clone();
            }
            return;
        }
        way[week] = HairBridge.NONE;
        goOn(week, copy(ropes), basket, inches, way);
        for (int monk = 0; monk < 6; monk++) {
            for (int rope = 0; rope < 4; rope++) {
                if (basket[monk] > 0 && ropes.get(rope).size() < 8) {
                    List<List<int[]>> more = copy(ropes);
                    more.get(rope).add(new int[] {monk, basket[monk]});
                    int[] rest = basket.clone();
                    rest[monk] = 0;
                    way[week] = 10 * monk + rope;
                    goOn(week, more, rest, inches + basket[monk], way);
                }
            }
        }
    }

    private void goOn(int week, List<List<int[]>> ropes, int[] basket, int inches, int[] way) {
        for (List<int[]> rope : ropes) {
            for (int inch = 0; inch < wear && !rope.isEmpty(); inch++) {
                rope.get(0)[1]--;
                if (rope.get(0)[1] == 0) {
                    rope.remove(0);
                }
            }
        }
        if (holds(ropes)) {
            tryWeek(week + 1, ropes, basket, inches, way);
        }
    }

    /** The need is put on: ropes that hold less than their share break until none does, or none is left. */
    private boolean holds(List<List<int[]>> ropes) {
        int[] powers = new int[4];
        for (int rope = 0; rope < 4; rope++) {
            for (int[] lock : ropes.get(rope)) {
                powers[rope] += lock[1] * strong[lock[0]];
            }
        }
        Arrays.sort(powers);
        int weakest = 0;
        while (weakest < 4 && powers[weakest] * (4 - weakest) < need) {
            weakest++;
        }
        return need == 0 || weakest < 4;
    }

    private static List<List<int[]>> copy(List<List<int[]>> ropes) {
        List<List<int[]>> all = new ArrayList<>();
        for (List<int[]> rope : ropes) {
            List<int[]> locks = new ArrayList<>();
            for (int[] lock : rope) {
                locks.add(lock.clone());
            }
            all.add(locks);
        }
        return all;
    }
}
