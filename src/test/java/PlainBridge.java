import java.util.ArrayList;
import java.util.List;
import java.util.TreeMap;

/**
 * The document once more, as plainly as can be and by other means than the class: ropes are lists
 * of single inches, loads are tried one by one, orders and ways are gone through without a cut.
 */
final class PlainBridge {
    static final int UNKNOWN = -1, OUTSIDE = -2, STATE = -3, FULL = -4, NO = -5, NONE = -6;

    /** One inch of hair in a rope; inches of the same lock have the same number. */
    private record Inch(int monk, int week, int lock) { }

    private static final class Abbey {
        int[] hair = {10, 10, 10, 10, 10, 10};
        int[] strong = {5, 5, 5, 5, 5, 5};
        int[] basket = new int[6];
        int[] worn = new int[6];
        List<List<Inch>> ropes = new ArrayList<>();
        int wear = 1;
        int weeks = 0;
        int locksEver = 0;

        Abbey() {
            for (int r = 0; r < 4; r++) {
                ropes.add(new ArrayList<>());
            }
        }

        Abbey copy() {
            Abbey c = new Abbey();
            c.hair = hair.clone();
            c.strong = strong.clone();
            c.basket = basket.clone();
            c.worn = worn.clone();
            c.ropes = new ArrayList<>();
            for (List<Inch> rope : ropes) {
                c.ropes.add(new ArrayList<>(rope));
            }
            c.wear = wear;
            c.weeks = weeks;
            c.locksEver = locksEver;
            return c;
        }

        List<Integer> locks(int rope) {
            List<Integer> numbers = new ArrayList<>();
            for (Inch inch : ropes.get(rope)) {
                if (!numbers.contains(inch.lock)) {
                    numbers.add(inch.lock);
                }
            }
            return numbers;
        }

        boolean room(int rope) {
            return locks(rope).size() < 8;
        }

        void weaveIn(int monk, int rope) {
            for (int n = 0; n < basket[monk]; n++) {
                ropes.get(rope).add(new Inch(monk, weeks, locksEver));
            }
            locksEver++;
            basket[monk] = 0;
        }

        void loseEach(int inches) {
            for (List<Inch> rope : ropes) {
                for (int n = 0; n < inches && !rope.isEmpty(); n++) {
                    worn[rope.remove(0).monk]++;
                }
            }
        }

        void week() {
            loseEach(wear);
            weeks++;
        }

        int power(int rope) {
            int sum = 0;
            for (Inch inch : ropes.get(rope)) {
                sum += strong[inch.monk];
            }
            return sum;
        }

        int broken(int load) {
            List<Integer> holding = new ArrayList<>();
            for (int r = 0; r < 4; r++) {
                if (power(r) > 0) {
                    holding.add(r);
                }
            }
            int bits = 0;
            while (true) {
                List<Integer> breaking = new ArrayList<>();
                for (int r : holding) {
                    if ((double) power(r) < (double) load / holding.size() - 1e-9) {
                        breaking.add(r);
                    }
                }
                if (breaking.isEmpty()) {
                    return bits;
                }
                for (int r : breaking) {
                    bits |= 1 << r;
                }
                holding.removeAll(breaking);
            }
        }

        boolean falls(int load) {
            if (load == 0) {
                return false;
            }
            int whole = 0;
            for (int r = 0; r < 4; r++) {
                if (power(r) > 0) {
                    whole |= 1 << r;
                }
            }
            return (whole & ~broken(load)) == 0;
        }

        /** What it bears is some rope's power times 1 to 4; each of these is tried under the load itself. */
        int bears() {
            int most = 0;
            for (int r = 0; r < 4; r++) {
                for (int times = 1; times <= 4; times++) {
                    int load = power(r) * times;
                    if (load > most && !falls(load)) {
                        most = load;
                    }
                }
            }
            return most;
        }
    }

    private Abbey a = new Abbey();
    private List<int[]> loads = new ArrayList<>();
    private List<int[]> weighings = new ArrayList<>();
    private String pad = "";
    private final Object[][] images = new Object[2][];

    int monk(int monk, int what, int v) {
        if (monk < 0 || monk > 5) {
            return UNKNOWN;
        }
        if (what < 0 || what > 1 || v < 0 || v > (what == 0 ? 40 : 9)) {
            return OUTSIDE;
        }
        int[] row = what == 0 ? a.hair : a.strong;
        int was = row[monk];
        row[monk] = v;
        return was;
    }

    int wear(int v) {
        if (v < 0 || v > 9) {
            return OUTSIDE;
        }
        int was = a.wear;
        a.wear = v;
        return was;
    }

    int say(int sign) {
        if (sign < 33 || sign > 126) {
            return OUTSIDE;
        }
        if (pad.length() == 60) {
            return FULL;
        }
        pad += (char) sign;
        return pad.length();
    }

    int wipe() {
        int was = pad.length();
        pad = "";
        return was;
    }

    /** A text that is the start of one without fault, by a pattern; the fault is where the longest such start ends. */
    int fault() {
        if (pad.matches("([A-F][+-][1-9]|[A-F][0-3]|\\.)*")) {
            return NONE;
        }
        int good = 0;
        for (int n = 0; n <= pad.length(); n++) {
            if (pad.substring(0, n).matches("([A-F][+-][1-9]|[A-F][0-3]|\\.)*([A-F][+-]?)?")) {
                good = n;
            }
        }
        return good;
    }

    private List<String> parts() {
        List<String> parts = new ArrayList<>();
        java.util.regex.Matcher m = java.util.regex.Pattern.compile("[A-F][+-][1-9]|[A-F][0-3]|\\.").matcher(pad);
        while (m.find()) {
            parts.add(m.group());
        }
        return parts;
    }

    private static int part(Abbey to, String p) {
        if (p.equals(".")) {
            to.week();
            return 0;
        }
        int m = p.charAt(0) - 'A';
        int n = p.charAt(p.length() - 1) - '0';
        if (p.charAt(1) == '+') {
            if (to.hair[m] + n > 40) {
                return 1;
            }
            to.hair[m] += n;
        } else if (p.charAt(1) == '-') {
            if (to.hair[m] < n) {
                return 2;
            }
            if (to.basket[m] + n > 99) {
                return 5;
            }
            to.hair[m] -= n;
            to.basket[m] += n;
        } else {
            if (to.basket[m] == 0) {
                return 3;
            }
            if (!to.room(n)) {
                return 4;
            }
            to.weaveIn(m, n);
        }
        return 0;
    }

    int judge(int what) {
        if (what < 0 || what > 1) {
            return OUTSIDE;
        }
        if (fault() != NONE) {
            return NO;
        }
        Abbey c = a.copy();
        int i = 0;
        for (String p : parts()) {
            int why = part(c, p);
            if (why != 0) {
                return what == 0 ? i : why;
            }
            i++;
        }
        return NONE;
    }

    int done() {
        if (judge(0) != NONE) {
            return NO;
        }
        int n = 0;
        for (String p : parts()) {
            part(a, p);
            n++;
        }
        pad = "";
        return n;
    }

    int lock(int rope, int lock, int what) {
        if (rope < 0 || rope > 3 || lock < 0 || lock >= a.locks(rope).size()) {
            return UNKNOWN;
        }
        if (what < 0 || what > 2) {
            return OUTSIDE;
        }
        int number = a.locks(rope).get(lock);
        int inches = 0;
        Inch some = null;
        for (Inch inch : a.ropes.get(rope)) {
            if (inch.lock == number) {
                inches++;
                some = inch;
            }
        }
        return what == 0 ? some.monk : what == 1 ? inches : a.weeks - some.week;
    }

    int power(int rope) {
        return rope < 0 || rope > 3 ? UNKNOWN : a.power(rope);
    }

    int bears() {
        return a.bears();
    }

    int broken(int load) {
        return load < 0 || load > 99999 ? OUTSIDE : a.broken(load);
    }

    long share(int monk, int part) {
        long gone = -1000000000000000000L;
        if (monk < 0 || monk > 5) {
            return gone - 1;
        }
        if (part < 0 || part > 1) {
            return gone - 2;
        }
        long whole = 0;
        for (int r = 0; r < 4; r++) {
            whole += a.power(r);
        }
        if (whole == 0) {
            return gone - 3;
        }
        long his = (long) led(monk, 0) * a.strong[monk];
        java.math.BigInteger common = java.math.BigInteger.valueOf(his).gcd(java.math.BigInteger.valueOf(whole));
        return (part == 0 ? his : whole) / common.longValue();
    }

    int led(int monk, int what) {
        if (monk < 0 || monk > 5) {
            return UNKNOWN;
        }
        if (what < 0 || what > 1) {
            return OUTSIDE;
        }
        if (what == 1) {
            return a.worn[monk];
        }
        int inches = 0;
        for (List<Inch> rope : a.ropes) {
            for (Inch inch : rope) {
                if (inch.monk == monk) {
                    inches++;
                }
            }
        }
        return inches;
    }

    int load(int weight, int worth) {
        if (weight < 0 || weight > 9999 || worth < 0 || worth > 99) {
            return OUTSIDE;
        }
        if (loads.size() == 6) {
            return FULL;
        }
        loads.add(new int[] {weight, worth});
        return loads.size();
    }

    int drop() {
        int was = loads.size();
        loads.clear();
        return was;
    }

    int best(int i) {
        List<List<Integer>> orders = new ArrayList<>();
        allOrders(new ArrayList<>(), orders);
        int most = -1;
        List<Integer> first = null;
        for (List<Integer> order : orders) {
            Abbey c = a.copy();
            int worth = 0;
            for (int n : order) {
                if (loads.get(n)[0] <= c.bears()) {
                    worth += loads.get(n)[1];
                    c.loseEach(1);
                }
            }
            if (worth > most) {
                most = worth;
                first = order;
            }
        }
        return i == -1 ? most : i < 0 || i >= loads.size() ? NONE : first.get(i);
    }

    private void allOrders(List<Integer> start, List<List<Integer>> orders) {
        if (start.size() == loads.size()) {
            orders.add(new ArrayList<>(start));
            return;
        }
        for (int n = 0; n < loads.size(); n++) {
            if (!start.contains(n)) {
                start.add(n);
                allOrders(start, orders);
                start.remove(start.size() - 1);
            }
        }
    }

    private int fewest;
    private List<Integer> fewestWay;

    int renewed(int w, int need, int i) {
        if (w < 0 || w > 4 || need < 0 || need > 9999 || i < -1 || i >= w) {
            return OUTSIDE;
        }
        fewest = Integer.MAX_VALUE;
        ways(a.copy(), w, need, new ArrayList<>(), 0);
        if (fewest == Integer.MAX_VALUE) {
            return NONE;
        }
        return i == -1 ? fewest : fewestWay.get(i);
    }

    private void ways(Abbey from, int w, int need, List<Integer> way, int inches) {
        if (way.size() == w) {
            if (inches < fewest) {
                fewest = inches;
                fewestWay = new ArrayList<>(way);
            }
            return;
        }
        for (int step = -1; step < 24; step++) {
            Abbey c = from.copy();
            int more = 0;
            if (step >= 0) {
                more = c.basket[step / 4];
                if (more == 0 || !c.room(step % 4)) {
                    continue;
                }
                c.weaveIn(step / 4, step % 4);
            }
            c.week();
            if (c.bears() >= need) {
                way.add(step < 0 ? NONE : step / 4 * 10 + step % 4);
                ways(c, w, need, way, inches + more);
                way.remove(way.size() - 1);
            }
        }
    }

    int soon(int set, int d, int rope, int need) {
        if (rope < 0 || rope > 3) {
            return UNKNOWN;
        }
        if (set < 1 || set > 63 || d < 1 || d > 9 || need < 0 || need > 9999) {
            return OUTSIDE;
        }
        Abbey c = a.copy();
        int week = 0;
        while (c.bears() < need) {
            if (week == 30) {
                return NONE;
            }
            for (int m = 0; m < 6; m++) {
                if ((set & 1 << m) != 0) {
                    for (int n = 0; n < d && c.hair[m] < 40; n++) {
                        c.hair[m]++;
                    }
                }
            }
            for (int m = 0; m < 6; m++) {
                if ((set & 1 << m) != 0) {
                    for (; c.hair[m] > 0; c.hair[m]--) {
                        if (c.basket[m] < 99) {
                            c.basket[m]++;
                        }
                    }
                }
            }
            for (int m = 0; m < 6; m++) {
                if ((set & 1 << m) != 0 && c.basket[m] > 0 && c.room(rope)) {
                    c.weaveIn(m, rope);
                }
            }
            c.week();
            week++;
        }
        return week;
    }

    int weighed(int set, int weight) {
        if (set < 1 || set > 63 || weight < 0 || weight > 240) {
            return OUTSIDE;
        }
        if (weighings.size() == 6) {
            return FULL;
        }
        weighings.add(new int[] {set, weight});
        return weighings.size();
    }

    int forget() {
        int was = weighings.size();
        weighings.clear();
        return was;
    }

    private int weighs(int set, int wigs) {
        int sum = 0;
        for (int m = 0; m < 6; m++) {
            if ((set & 1 << m) != 0 && (wigs & 1 << m) == 0) {
                sum += a.hair[m];
            }
        }
        return sum;
    }

    private List<Integer> fitting() {
        List<Integer> all = new ArrayList<>();
        for (int wigs = 0; wigs < 64; wigs++) {
            boolean fits = true;
            for (int[] w : weighings) {
                fits &= weighs(w[0], wigs) == w[1];
            }
            if (fits) {
                all.add(wigs);
            }
        }
        return all;
    }

    int canBe(int i) {
        List<Integer> all = fitting();
        return i == -1 ? all.size() : i < 0 || i >= all.size() ? NONE : all.get(i);
    }

    int sure(int what) {
        if (what < 0 || what > 2) {
            return OUTSIDE;
        }
        List<Integer> all = fitting();
        if (all.isEmpty()) {
            return NO;
        }
        if (what == 2) {
            return ask(all);
        }
        int bits = 0;
        for (int m = 0; m < 6; m++) {
            int wearing = 0;
            for (int wigs : all) {
                wearing += wigs >> m & 1;
            }
            if (wearing == (what == 0 ? all.size() : 0)) {
                bits |= 1 << m;
            }
        }
        return bits;
    }

    private int ask(List<Integer> all) {
        int best = 0;
        int fewestAlike = Integer.MAX_VALUE;
        for (int set = 63; set >= 1; set--) {
            TreeMap<Integer, Integer> alike = new TreeMap<>();
            for (int wigs : all) {
                alike.merge(weighs(set, wigs), 1, Integer::sum);
            }
            int most = java.util.Collections.max(alike.values());
            if (most <= fewestAlike) {
                fewestAlike = most;
                best = set;
            }
        }
        return best;
    }

    int year(int seed, int w, int what) {
        if (seed < 0 || seed > 9999 || w < 1 || w > 60 || what < 0 || what > 1) {
            return OUTSIDE;
        }
        Abbey c = a.copy();
        long x = seed;
        int least = Integer.MAX_VALUE;
        for (int week = 0; week < w; week++) {
            for (int m = 0; m < 6; m++) {
                x = (75 * x + 74) % 65537;
                char monk = (char) ('A' + m);
                String[] deeds = {monk + "+1", monk + "-1", monk + "" + x % 4};
                part(c, deeds[(int) (x % 3)]);
            }
            c.week();
            least = Math.min(least, c.bears());
        }
        return what == 0 ? c.bears() : least;
    }

    int image(int n) {
        if (n < 0 || n > 1) {
            return OUTSIDE;
        }
        images[n] = new Object[] {a.copy(), new ArrayList<>(loads), new ArrayList<>(weighings)};
        return 1;
    }

    @SuppressWarnings("unchecked")
    int restore(int n) {
        if (n < 0 || n > 1) {
            return OUTSIDE;
        }
        if (images[n] == null) {
            return STATE;
        }
        a = ((Abbey) images[n][0]).copy();
        loads = new ArrayList<>((List<int[]>) images[n][1]);
        weighings = new ArrayList<>((List<int[]>) images[n][2]);
        return 1;
    }

    int told(int what) {
        if (what >= 0 && what <= 4) {
            return new int[] {pad.length(), a.wear, a.weeks, loads.size(), weighings.size()}[what];
        }
        int of = what % 10;
        switch (what / 10) {
            case 1:
                return of > 5 ? OUTSIDE : a.hair[of];
            case 2:
                return of > 5 ? OUTSIDE : a.strong[of];
            case 3:
                return of > 5 ? OUTSIDE : a.basket[of];
            case 4:
                return of > 3 ? OUTSIDE : a.locks(of).size();
            default:
                return OUTSIDE;
        }
    }
}
