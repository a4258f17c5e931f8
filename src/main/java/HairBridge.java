import java.util.Arrays;

/**
 * Monks whose hair grows by the sin and is cut by the prayer, and a bridge that hangs by ropes of
 * it. What each call promises stands in the project's document.
 */
public final class HairBridge {
    public static final int UNKNOWN = -1, OUTSIDE = -2, STATE = -3, FULL = -4, NO = -5, NONE = -6;
    public static final long GONE = -1000000000000000000L;

    private static final int MONKS = 6;
    private static final int ALL_MONKS = 63;
    private static final int ROPES = 4;
    private static final int MOST_LOCKS = 8;
    private static final int MOST_HAIR = 40;
    private static final int MOST_STRONG = 9;
    private static final int MOST_BASKET = 99;
    private static final int MOST_WEAR = 9;
    private static final int MOST_SIGNS = 60;
    private static final int MOST_PAIRS = 6;
    private static final int MOST_WEIGHT = 9999;
    private static final int MOST_WORTH = 99;
    private static final int MOST_BROKEN_BY = 99999;
    private static final int MOST_NEED = 9999;
    private static final int MOST_RENEWED = 4;
    private static final int MOST_SOON = 30;
    private static final int MOST_SEED = 9999;
    private static final int MOST_YEAR = 60;
    private static final int IMAGES = 2;

    private final Pad pad;
    private final Whole now;
    private final Whole[] images;
    private final boolean[] kept;
    private final Abbey trial;
    private final Crossing crossing;
    private final Renewal renewal;
    private final Wigs wigs;

    public HairBridge() {
        pad = new Pad();
        now = new Whole();
        images = new Whole[IMAGES];
        for (int n = 0; n < IMAGES; n++) {
            images[n] = new Whole();
        }
        kept = new boolean[IMAGES];
        trial = new Abbey();
        crossing = new Crossing();
        renewal = new Renewal();
        wigs = new Wigs();
    }

    // ---- 1 monks, weeks

    public int monk(int monk, int what, int v) {
        if (!isIn(monk, 0, MONKS - 1)) {
            return UNKNOWN;
        }
        if (!isIn(what, 0, 1) || !isIn(v, 0, what == 0 ? MOST_HAIR : MOST_STRONG)) {
            return OUTSIDE;
        }
        int[] row = what == 0 ? now.abbey.hair : now.abbey.strong;
        int before = row[monk];
        row[monk] = v;
        return before;
    }

    public int wear(int v) {
        if (!isIn(v, 0, MOST_WEAR)) {
            return OUTSIDE;
        }
        int before = now.abbey.wear;
        now.abbey.wear = v;
        return before;
    }

    public int say(int sign) {
        if (!isIn(sign, 33, 126)) {
            return OUTSIDE;
        }
        return pad.put(sign) ? pad.count : FULL;
    }

    public int wipe() {
        return pad.clear();
    }

    public int fault() {
        return pad.firstFault();
    }

    public int judge(int what) {
        if (!isIn(what, 0, 1)) {
            return OUTSIDE;
        }
        if (pad.firstFault() != NONE) {
            return NO;
        }
        int verdict = tryText();
        if (Pad.why(verdict) == Abbey.DONE) {
            return NONE;
        }
        return what == 0 ? Pad.parts(verdict) : Pad.why(verdict);
    }

    public int done() {
        if (pad.firstFault() != NONE) {
            return NO;
        }
        int verdict = tryText();
        if (Pad.why(verdict) != Abbey.DONE) {
            return NO;
        }
        now.abbey.become(trial);
        pad.clear();
        return Pad.parts(verdict);
    }

    public int lock(int rope, int lock, int what) {
        if (!isIn(rope, 0, ROPES - 1)) {
            return UNKNOWN;
        }
        Rope led = now.abbey.ropes[rope];
        if (!isIn(lock, 0, led.count - 1)) {
            return UNKNOWN;
        }
        switch (what) {
            case 0:
                return led.monks[lock];
            case 1:
                return led.inches[lock];
            case 2:
                return now.abbey.weeks - led.weeks[lock];
            default:
                return OUTSIDE;
        }
    }

    // ---- 2 the bridge

    public int power(int rope) {
        if (!isIn(rope, 0, ROPES - 1)) {
            return UNKNOWN;
        }
        return now.abbey.ropes[rope].powerLess(0, now.abbey.strong);
    }

    public int bears() {
        return now.abbey.bearsLess(0);
    }

    public int broken(int load) {
        if (!isIn(load, 0, MOST_BROKEN_BY)) {
            return OUTSIDE;
        }
        return now.abbey.brokenUnder(load);
    }

    public long share(int monk, int part) {
        if (!isIn(monk, 0, MONKS - 1)) {
            return GONE + UNKNOWN;
        }
        if (!isIn(part, 0, 1)) {
            return GONE + OUTSIDE;
        }
        int whole = 0;
        for (int m = 0; m < MONKS; m++) {
            whole += now.abbey.powerOf(m);
        }
        if (whole == 0) {
            return GONE + STATE;
        }
        int his = now.abbey.powerOf(monk);
        int common = commonDivisor(whole, his);
        return (part == 0 ? his : whole) / common;
    }

    public int led(int monk, int what) {
        if (!isIn(monk, 0, MONKS - 1)) {
            return UNKNOWN;
        }
        if (!isIn(what, 0, 1)) {
            return OUTSIDE;
        }
        return what == 0 ? now.abbey.inchesOf(monk) : now.abbey.worn[monk];
    }

    // ---- 3 loads, locks to come

    public int load(int weight, int worth) {
        if (!isIn(weight, 0, MOST_WEIGHT) || !isIn(worth, 0, MOST_WORTH)) {
            return OUTSIDE;
        }
        return now.loads.put(weight, worth) ? now.loads.count : FULL;
    }

    public int drop() {
        return now.loads.clear();
    }

    public int best(int i) {
        if (!isIn(i, -1, now.loads.count - 1)) {
            return NONE;
        }
        crossing.reckon(now.abbey, now.loads);
        return i < 0 ? crossing.most() : crossing.turn(i);
    }

    public int renewed(int w, int need, int i) {
        if (!isIn(w, 0, MOST_RENEWED) || !isIn(need, 0, MOST_NEED) || !isIn(i, -1, w - 1)) {
            return OUTSIDE;
        }
        int fewest = renewal.fewestInches(now.abbey, w, need);
        return i < 0 || fewest == NONE ? fewest : renewal.wovenAhead(i);
    }

    public int soon(int set, int d, int rope, int need) {
        if (!isIn(rope, 0, ROPES - 1)) {
            return UNKNOWN;
        }
        if (!isIn(set, 1, ALL_MONKS) || !isIn(d, 1, 9) || !isIn(need, 0, MOST_NEED)) {
            return OUTSIDE;
        }
        trial.become(now.abbey);
        for (int week = 0; week <= MOST_SOON; week++) {
            if (trial.bearsLess(0) >= need) {
                return week;
            }
            trial.giveAll(set, d, rope);
            trial.passWeek();
        }
        return NONE;
    }

    // ---- 4 wigs, years

    public int weighed(int set, int weight) {
        if (!isIn(set, 1, ALL_MONKS) || !isIn(weight, 0, MONKS * MOST_HAIR)) {
            return OUTSIDE;
        }
        return now.weighings.put(set, weight) ? now.weighings.count : FULL;
    }

    public int forget() {
        return now.weighings.clear();
    }

    public int canBe(int i) {
        wigs.find(now.abbey.hair, now.weighings);
        if (i == -1) {
            return wigs.count;
        }
        return isIn(i, 0, wigs.count - 1) ? wigs.fitting[i] : NONE;
    }

    public int sure(int what) {
        if (!isIn(what, 0, 2)) {
            return OUTSIDE;
        }
        wigs.find(now.abbey.hair, now.weighings);
        if (wigs.count == 0) {
            return NO;
        }
        switch (what) {
            case 0:
                return wigs.inEach();
            case 1:
                return wigs.inNone();
            default:
                return wigs.bestToAsk();
        }
    }

    public int year(int seed, int w, int what) {
        if (!isIn(seed, 0, MOST_SEED) || !isIn(w, 1, MOST_YEAR) || !isIn(what, 0, 1)) {
            return OUTSIDE;
        }
        trial.become(now.abbey);
        int x = seed;
        int bears = 0;
        int least = 0;
        for (int week = 0; week < w; week++) {
            x = trial.drawDeeds(x);
            trial.passWeek();
            bears = trial.bearsLess(0);
            least = week == 0 ? bears : Math.min(least, bears);
        }
        return what == 0 ? bears : least;
    }

    public int image(int n) {
        if (!isIn(n, 0, IMAGES - 1)) {
            return OUTSIDE;
        }
        images[n].become(now);
        kept[n] = true;
        return 1;
    }

    public int restore(int n) {
        if (!isIn(n, 0, IMAGES - 1)) {
            return OUTSIDE;
        }
        if (!kept[n]) {
            return STATE;
        }
        now.become(images[n]);
        return 1;
    }

    public int told(int what) {
        switch (what) {
            case 0:
                return pad.count;
            case 1:
                return now.abbey.wear;
            case 2:
                return now.abbey.weeks;
            case 3:
                return now.loads.count;
            case 4:
                return now.weighings.count;
            default:
                return toldOfOne(what);
        }
    }

    private int toldOfOne(int what) {
        if (isIn(what, 10, 9 + MONKS)) {
            return now.abbey.hair[what - 10];
        }
        if (isIn(what, 20, 19 + MONKS)) {
            return now.abbey.strong[what - 20];
        }
        if (isIn(what, 30, 29 + MONKS)) {
            return now.abbey.basket[what - 30];
        }
        if (isIn(what, 40, 39 + ROPES)) {
            return now.abbey.ropes[what - 40].count;
        }
        return OUTSIDE;
    }

    /** The text is done on the trial, so that a part that can not be leaves nothing half done. */
    private int tryText() {
        trial.become(now.abbey);
        return pad.follow(trial);
    }

    private static boolean isIn(int v, int least, int most) {
        return v >= least && v <= most;
    }

    private static int commonDivisor(int a, int b) {
        int upper = a;
        int lower = b;
        for (int step = 0; step < 100 && lower != 0; step++) {
            int left = upper % lower;
            upper = lower;
            lower = left;
        }
        return Math.max(1, upper);
    }

    /** What the bridge bears by the power of its ropes: the strongest j hold j times the least of them. */
    private static int greatestLoad(int[] powers) {
        int greatest = 0;
        for (int weakest : powers) {
            int holders = 0;
            for (int power : powers) {
                if (power >= weakest) {
                    holders++;
                }
            }
            greatest = Math.max(greatest, holders * weakest);
        }
        return greatest;
    }

    /** Locks one behind another, the oldest first. */
    private static final class Rope {
        final int[] monks;
        final int[] inches;
        final int[] weeks;
        int count;

        Rope() {
            monks = new int[MOST_LOCKS];
            inches = new int[MOST_LOCKS];
            weeks = new int[MOST_LOCKS];
        }

        void become(Rope other) {
            count = other.count;
            System.arraycopy(other.monks, 0, monks, 0, count);
            System.arraycopy(other.inches, 0, inches, 0, count);
            System.arraycopy(other.weeks, 0, weeks, 0, count);
        }

        boolean hasRoom() {
            return count < MOST_LOCKS;
        }

        void add(int monk, int length, int week) {
            if (hasRoom()) {
                monks[count] = monk;
                inches[count] = length;
                weeks[count] = week;
                count++;
            }
        }

        void lose(int length, int[] worn) {
            int left = length;
            int whole = 0;
            while (whole < count && inches[whole] <= left) {
                left -= inches[whole];
                worn[monks[whole]] += inches[whole];
                whole++;
            }
            if (whole < count) {
                inches[whole] -= left;
                worn[monks[whole]] += left;
            }
            dropOldest(whole);
        }

        private void dropOldest(int locks) {
            if (locks > 0) {
                count -= locks;
                System.arraycopy(monks, locks, monks, 0, count);
                System.arraycopy(inches, locks, inches, 0, count);
                System.arraycopy(weeks, locks, weeks, 0, count);
            }
        }

        /** The power that is left if so much is lost. */
        int powerLess(int length, int[] strong) {
            int left = length;
            int power = 0;
            for (int i = 0; i < count; i++) {
                int lost = Math.min(left, inches[i]);
                left -= lost;
                power += (inches[i] - lost) * strong[monks[i]];
            }
            return power;
        }

        int length() {
            int length = 0;
            for (int i = 0; i < count; i++) {
                length += inches[i];
            }
            return length;
        }

        int lengthOf(int monk) {
            int length = 0;
            for (int i = 0; i < count; i++) {
                if (monks[i] == monk) {
                    length += inches[i];
                }
            }
            return length;
        }
    }

    /** The monks, the basket and the ropes, and what can be done with them. */
    private static final class Abbey {
        /** Why a part can not be. */
        static final int DONE = 0, TOO_LONG = 1, TOO_SHORT = 2, NO_HAIR = 3, NO_ROOM = 4, TOO_FULL = 5;

        final int[] hair;
        final int[] strong;
        final int[] basket;
        final int[] worn;
        final Rope[] ropes;
        private final int[] powers;
        int wear;
        int weeks;

        Abbey() {
            hair = new int[MONKS];
            strong = new int[MONKS];
            basket = new int[MONKS];
            worn = new int[MONKS];
            ropes = new Rope[ROPES];
            powers = new int[ROPES];
            Arrays.fill(hair, 10);
            Arrays.fill(strong, 5);
            for (int rope = 0; rope < ROPES; rope++) {
                ropes[rope] = new Rope();
            }
            wear = 1;
        }

        void become(Abbey other) {
            System.arraycopy(other.hair, 0, hair, 0, MONKS);
            System.arraycopy(other.strong, 0, strong, 0, MONKS);
            System.arraycopy(other.basket, 0, basket, 0, MONKS);
            System.arraycopy(other.worn, 0, worn, 0, MONKS);
            for (int rope = 0; rope < ROPES; rope++) {
                ropes[rope].become(other.ropes[rope]);
            }
            wear = other.wear;
            weeks = other.weeks;
        }

        int sin(int monk, int length) {
            if (hair[monk] + length > MOST_HAIR) {
                return TOO_LONG;
            }
            hair[monk] += length;
            return DONE;
        }

        int pray(int monk, int length) {
            if (hair[monk] < length) {
                return TOO_SHORT;
            }
            if (basket[monk] + length > MOST_BASKET) {
                return TOO_FULL;
            }
            hair[monk] -= length;
            basket[monk] += length;
            return DONE;
        }

        int weave(int monk, int rope) {
            if (basket[monk] == 0) {
                return NO_HAIR;
            }
            if (!ropes[rope].hasRoom()) {
                return NO_ROOM;
            }
            ropes[rope].add(monk, basket[monk], weeks);
            basket[monk] = 0;
            return DONE;
        }

        void passWeek() {
            for (int rope = 0; rope < ROPES; rope++) {
                ropes[rope].lose(wear, worn);
            }
            weeks++;
        }

        /** All of a set sin, pray all they have, and all of theirs goes to a rope. */
        void giveAll(int set, int length, int rope) {
            for (int monk = 0; monk < MONKS; monk++) {
                if ((set >> monk & 1) != 0) {
                    int cut = Math.min(MOST_HAIR, hair[monk] + length);
                    hair[monk] = 0;
                    basket[monk] = Math.min(MOST_BASKET, basket[monk] + cut);
                    weave(monk, rope);
                }
            }
        }

        /** A week's deeds by draws; the last draw. */
        int drawDeeds(int draw) {
            int x = draw;
            for (int monk = 0; monk < MONKS; monk++) {
                x = (75 * x + 74) % 65537;
                switch (x % 3) {
                    case 0:
                        sin(monk, 1);
                        break;
                    case 1:
                        pray(monk, 1);
                        break;
                    default:
                        weave(monk, x % ROPES);
                        break;
                }
            }
            return x;
        }

        /** What the bridge bears if each rope loses so much. */
        int bearsLess(int length) {
            for (int rope = 0; rope < ROPES; rope++) {
                powers[rope] = ropes[rope].powerLess(length, strong);
            }
            return greatestLoad(powers);
        }

        int brokenUnder(int load) {
            int holding = 0;
            for (int rope = 0; rope < ROPES; rope++) {
                powers[rope] = ropes[rope].powerLess(0, strong);
                if (powers[rope] > 0) {
                    holding |= 1 << rope;
                }
            }
            int broken = 0;
            for (int round = 0; round < ROPES; round++) {
                int breaking = breaking(holding, load);
                broken |= breaking;
                holding &= ~breaking;
            }
            return broken;
        }

        private int breaking(int holding, int load) {
            int holders = Integer.bitCount(holding);
            int breaking = 0;
            for (int rope = 0; rope < ROPES; rope++) {
                if ((holding >> rope & 1) != 0 && powers[rope] * holders < load) {
                    breaking |= 1 << rope;
                }
            }
            return breaking;
        }

        int powerInBasket(int monk) {
            return basket[monk] * strong[monk];
        }

        int inchesOf(int monk) {
            int length = 0;
            for (int rope = 0; rope < ROPES; rope++) {
                length += ropes[rope].lengthOf(monk);
            }
            return length;
        }

        int powerOf(int monk) {
            return inchesOf(monk) * strong[monk];
        }
    }

    /** A few pairs of numbers: loads (weight, worth) or weighings (set, weight). */
    private static final class Pairs {
        final int[] first;
        final int[] second;
        int count;

        Pairs() {
            first = new int[MOST_PAIRS];
            second = new int[MOST_PAIRS];
        }

        void become(Pairs other) {
            count = other.count;
            System.arraycopy(other.first, 0, first, 0, count);
            System.arraycopy(other.second, 0, second, 0, count);
        }

        boolean put(int a, int b) {
            if (count >= MOST_PAIRS) {
                return false;
            }
            first[count] = a;
            second[count] = b;
            count++;
            return true;
        }

        int clear() {
            int before = count;
            count = 0;
            return before;
        }
    }

    /** All that an image keeps. */
    private static final class Whole {
        final Abbey abbey;
        final Pairs loads;
        final Pairs weighings;

        Whole() {
            abbey = new Abbey();
            loads = new Pairs();
            weighings = new Pairs();
        }

        void become(Whole other) {
            abbey.become(other.abbey);
            loads.become(other.loads);
            weighings.become(other.weighings);
        }
    }

    /** The signs of a text, and how they are read. */
    private static final class Pad {
        /** What may come next; WRONG: the sign can not stand there. */
        private static final int PART = 0, DEED = 1, DIGIT = 2, WRONG = 3;
        /** A verdict is the parts that were done, times this, and why the next can not be. */
        private static final int REASONS = 8;

        private final int[] signs;
        int count;

        Pad() {
            signs = new int[MOST_SIGNS];
        }

        boolean put(int sign) {
            if (count >= MOST_SIGNS) {
                return false;
            }
            signs[count] = sign;
            count++;
            return true;
        }

        int clear() {
            int before = count;
            count = 0;
            return before;
        }

        int firstFault() {
            int next = PART;
            for (int at = 0; at < count; at++) {
                next = behind(next, signs[at]);
                if (next == WRONG) {
                    return at;
                }
            }
            return next == PART ? NONE : count;
        }

        private static int behind(int expected, int sign) {
            switch (expected) {
                case PART:
                    return sign == '.' ? PART : isIn(sign, 'A', 'F') ? DEED : WRONG;
                case DEED:
                    return sign == '+' || sign == '-' ? DIGIT : isIn(sign, '0', '3') ? PART : WRONG;
                default:
                    return isIn(sign, '1', '9') ? PART : WRONG;
            }
        }

        static int parts(int verdict) {
            return verdict / REASONS;
        }

        static int why(int verdict) {
            return verdict % REASONS;
        }

        /** Does parts until one can not be; the text must be without fault. */
        int follow(Abbey abbey) {
            int parts = 0;
            int next = PART;
            int start = 0;
            for (int at = 0; at < count && next != WRONG; at++) {
                next = behind(next, signs[at]);
                if (next == PART) {
                    int why = doPart(abbey, start, at);
                    if (why != Abbey.DONE) {
                        return parts * REASONS + why;
                    }
                    parts++;
                    start = at + 1;
                }
            }
            return parts * REASONS;
        }

        private int doPart(Abbey abbey, int start, int end) {
            if (start == end) {
                abbey.passWeek();
                return Abbey.DONE;
            }
            int monk = signs[start] - 'A';
            int number = signs[end] - '0';
            switch (signs[start + 1]) {
                case '+':
                    return abbey.sin(monk, number);
                case '-':
                    return abbey.pray(monk, number);
                default:
                    return abbey.weave(monk, number);
            }
        }
    }

    /** The order by which loads of the most worth cross. */
    private static final class Crossing {
        private static final int WORN_STATES = MOST_PAIRS + 1;

        /** Each crossing wears all ropes alike, so what is borne depends on how many crossed alone. */
        private final int[] borne;
        /** The most worth of the loads still to come, by the set that had its turn and how many crossed. */
        private final int[] worthToCome;
        private final int[] order;
        private final Pairs loads;

        Crossing() {
            loads = new Pairs();
            borne = new int[WORN_STATES];
            worthToCome = new int[(1 << MOST_PAIRS) * WORN_STATES];
            order = new int[MOST_PAIRS];
        }

        int most() {
            return worthToCome[0];
        }

        int turn(int i) {
            return order[i];
        }

        void reckon(Abbey abbey, Pairs all) {
            loads.become(all);
            for (int crossed = 0; crossed <= loads.count; crossed++) {
                borne[crossed] = abbey.bearsLess(crossed);
            }
            for (int turned = (1 << loads.count) - 1; turned >= 0; turned--) {
                for (int crossed = Integer.bitCount(turned); crossed >= 0; crossed--) {
                    worthToCome[turned * WORN_STATES + crossed] = mostFrom(turned, crossed);
                }
            }
            findOrder();
        }

        private int mostFrom(int turned, int crossed) {
            int most = 0;
            for (int load = 0; load < loads.count; load++) {
                if ((turned >> load & 1) == 0) {
                    most = Math.max(most, worthBy(load, turned, crossed));
                }
            }
            return most;
        }

        private boolean crosses(int load, int crossed) {
            return loads.first[load] <= borne[crossed];
        }

        private int worthBy(int load, int turned, int crossed) {
            int rest = (turned | 1 << load) * WORN_STATES + crossed;
            return crosses(load, crossed) ? loads.second[load] + worthToCome[rest + 1] : worthToCome[rest];
        }

        private void findOrder() {
            int turned = 0;
            int crossed = 0;
            for (int turn = 0; turn < loads.count; turn++) {
                int load = firstBest(turned, crossed);
                order[turn] = load;
                turned |= 1 << load;
                if (crosses(load, crossed)) {
                    crossed++;
                }
            }
        }

        private int firstBest(int turned, int crossed) {
            int most = worthToCome[turned * WORN_STATES + crossed];
            for (int load = 0; load < loads.count; load++) {
                if ((turned >> load & 1) == 0 && worthBy(load, turned, crossed) == most) {
                    return load;
                }
            }
            return 0;
        }
    }

    /** Which hair of the basket to weave in ahead of which week, by the fewest inches. */
    private static final class Renewal {
        private static final int TOO_MANY = MONKS * MOST_BASKET + 1;
        private static final int NOBODY = -1;

        /** The abbey ahead of each week of the way that is being tried. */
        private final Abbey[] ahead;
        /** The power of the ropes behind each week, if nothing is woven in ahead of it. */
        private final int[][] worn;
        /** How much of what is woven in ahead of each week wears away in it, by ropes. */
        private final int[][] eaten;
        /** The monks by the power of what the basket has of theirs. */
        private final int[] strongestFirst;
        private final int[] tried;
        private final int[] found;
        private int weeks;
        private int need;
        private int fewest;

        Renewal() {
            ahead = new Abbey[MOST_RENEWED + 1];
            for (int week = 0; week <= MOST_RENEWED; week++) {
                ahead[week] = new Abbey();
            }
            worn = new int[MOST_RENEWED][ROPES];
            eaten = new int[MOST_RENEWED][ROPES];
            strongestFirst = new int[MONKS];
            tried = new int[MOST_RENEWED];
            found = new int[MOST_RENEWED];
        }

        int fewestInches(Abbey abbey, int forWeeks, int toBear) {
            weeks = forWeeks;
            need = toBear;
            fewest = TOO_MANY;
            ahead[0].become(abbey);
            sortByBasket(abbey);
            tryFrom(0, 0);
            return fewest == TOO_MANY ? NONE : fewest;
        }

        int wovenAhead(int week) {
            return found[week];
        }

        private void sortByBasket(Abbey abbey) {
            for (int monk = 0; monk < MONKS; monk++) {
                int power = abbey.powerInBasket(monk);
                int place = monk;
                while (place > 0 && abbey.powerInBasket(strongestFirst[place - 1]) < power) {
                    strongestFirst[place] = strongestFirst[place - 1];
                    place--;
                }
                strongestFirst[place] = monk;
            }
        }

        /** Ways are tried in their order, and only those with fewer inches than the last that was found. */
        private void tryFrom(int week, int inches) {
            if (week >= weeks) {
                fewest = inches;
                System.arraycopy(tried, 0, found, 0, weeks);
                return;
            }
            if (isHopeless(week)) {
                return;
            }
            foresee(week);
            tryStep(week, inches, NOBODY, 0);
            for (int monk = 0; monk < MONKS; monk++) {
                int more = ahead[week].basket[monk];
                for (int rope = 0; rope < ROPES && more > 0; rope++) {
                    tryStep(week, inches + more, monk, rope);
                }
            }
        }

        private void tryStep(int week, int inches, int monk, int rope) {
            if (inches >= fewest || !holdsBehind(week, monk, rope)) {
                return;
            }
            Abbey next = ahead[week + 1];
            next.become(ahead[week]);
            if (monk != NOBODY) {
                next.weave(monk, rope);
            }
            next.passWeek();
            tried[week] = monk == NOBODY ? NONE : 10 * monk + rope;
            tryFrom(week + 1, inches);
        }

        private boolean holdsBehind(int week, int monk, int rope) {
            int[] powers = worn[week];
            if (monk == NOBODY) {
                return greatestLoad(powers) >= need;
            }
            Abbey here = ahead[week];
            int before = powers[rope];
            powers[rope] += Math.max(0, here.basket[monk] - eaten[week][rope]) * here.strong[monk];
            boolean holds = here.ropes[rope].hasRoom() && greatestLoad(powers) >= need;
            powers[rope] = before;
            return holds;
        }

        private void foresee(int week) {
            Abbey here = ahead[week];
            for (int rope = 0; rope < ROPES; rope++) {
                worn[week][rope] = here.ropes[rope].powerLess(here.wear, here.strong);
                eaten[week][rope] = Math.max(0, here.wear - here.ropes[rope].length());
            }
        }

        /** The bridge never bears more than the power of all ropes: not enough, even if all that is woven in lasts. */
        private boolean isHopeless(int week) {
            Abbey here = ahead[week];
            int stillToGo = weeks - week;
            int power = 0;
            for (int rope = 0; rope < ROPES; rope++) {
                power += here.ropes[rope].powerLess(here.wear * stillToGo, here.strong);
            }
            for (int i = 0; i < MONKS && stillToGo > 0; i++) {
                int monk = strongestFirst[i];
                if (here.basket[monk] > 0) {
                    power += here.powerInBasket(monk);
                    stillToGo--;
                }
            }
            return power < need;
        }
    }

    /** Which sets of monks may wear wigs. */
    private static final class Wigs {
        private static final int SETS = ALL_MONKS + 1;

        /** What each set weighs if none of it wears a wig. */
        private final int[] weights;
        /** How many of those that can be weigh alike, by weight; all 0 between calls. */
        private final int[] alike;
        final int[] fitting;
        int count;

        Wigs() {
            weights = new int[SETS];
            alike = new int[MONKS * MOST_HAIR + 1];
            fitting = new int[SETS];
        }

        void find(int[] hair, Pairs weighings) {
            for (int set = 1; set < SETS; set++) {
                int least = Integer.numberOfTrailingZeros(set);
                weights[set] = weights[set & (set - 1)] + hair[least];
            }
            count = 0;
            for (int wearers = 0; wearers < SETS; wearers++) {
                if (fits(wearers, weighings)) {
                    fitting[count] = wearers;
                    count++;
                }
            }
        }

        private boolean fits(int wearers, Pairs weighings) {
            for (int i = 0; i < weighings.count; i++) {
                if (weights[weighings.first[i] & ~wearers] != weighings.second[i]) {
                    return false;
                }
            }
            return true;
        }

        int inEach() {
            int each = ALL_MONKS;
            for (int i = 0; i < count; i++) {
                each &= fitting[i];
            }
            return each;
        }

        int inNone() {
            int some = 0;
            for (int i = 0; i < count; i++) {
                some |= fitting[i];
            }
            return ALL_MONKS & ~some;
        }

        int bestToAsk() {
            int best = 1;
            int fewest = SETS + 1;
            for (int set = 1; set < SETS; set++) {
                int most = mostAlike(set);
                if (most < fewest) {
                    fewest = most;
                    best = set;
                }
            }
            return best;
        }

        private int mostAlike(int set) {
            int most = 0;
            for (int i = 0; i < count; i++) {
                int weight = weights[set & ~fitting[i]];
                alike[weight]++;
                most = Math.max(most, alike[weight]);
            }
            for (int i = 0; i < count; i++) {
                alike[weights[set & ~fitting[i]]] = 0;
            }
            return most;
        }
    }
}
