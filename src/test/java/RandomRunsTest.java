import java.util.Random;

/** Runs of calls by draws, on the class and on PlainBridge side by side: all promises. */
public final class RandomRunsTest {
    /** No step makes more calls than these. */
    private static final int STEP = 60;

    private final Checks checks = new Checks();
    private final Random draws;
    private final int run;
    private final Bridge x = new Bridge();
    private final PlainBridge y = new PlainBridge();
    private int call = 0;

    private RandomRunsTest(int run) {
        this.run = run;
        draws = new Random(run * 7919L + 1);
    }

    public static void main(String[] args) {
        int runs = args.length > 0 ? Integer.parseInt(args[0]) : 120;
        int first = args.length > 1 ? Integer.parseInt(args[1]) : 0;
        int wrong = 0;
        for (int run = first; run < first + runs && wrong == 0; run++) {
            wrong += new RandomRunsTest(run).go();
        }
        System.out.println(wrong == 0 ? runs + " runs, all as due" : "a run is not as due");
        if (wrong != 0) {
            System.exit(1);
        }
    }

    private int go() {
        if (run % 3 > 0) {
            fill();
        }
        while (x.left() >= STEP && checks.wrong() == 0) {
            step();
        }
        return checks.wrong();
    }

    /** Ropes with some locks and a basket with some hair, so that what follows has something to work on. */
    private void fill() {
        int wear = draws.nextInt(4) == 0 ? draws.nextInt(10) : draws.nextInt(3);
        due("wear " + wear, x.wear(wear), y.wear(wear));
        int rounds = 1 + draws.nextInt(run % 3 == 1 ? 4 : 12);
        int ropes = 1 + draws.nextInt(4);
        for (int n = 0; n < rounds; n++) {
            int monk = draws.nextInt(6);
            int hair = 20 + draws.nextInt(21);
            int strong = draws.nextInt(10);
            due("monk " + monk + " 0 " + hair, x.monk(monk, 0, hair), y.monk(monk, 0, hair));
            due("monk " + monk + " 1 " + strong, x.monk(monk, 1, strong), y.monk(monk, 1, strong));
            char name = (char) ('A' + monk);
            String cut = name + "-" + (1 + draws.nextInt(9));
            sayAll(draws.nextInt(3) == 0 ? cut + cut : cut + name + draws.nextInt(ropes));
            due("done", x.done(), y.done());
        }
    }

    private void due(String name, long got, long want) {
        call++;
        checks.due("run " + run + ", call " + call + ": " + name, got, want);
    }

    /** Mostly in bounds, at times at their edges or beyond. */
    private int near(int least, int most) {
        switch (draws.nextInt(12)) {
            case 0:
                return least - draws.nextInt(2);
            case 1:
                return most + draws.nextInt(2);
            case 2:
                return draws.nextInt(8) == 0 ? draws.nextInt() : least;
            default:
                return least + draws.nextInt(most - least + 1);
        }
    }

    private void step() {
        switch (draws.nextInt(14)) {
            case 0:
            case 1:
            case 2:
            case 3:
                text();
                break;
            case 4:
                settings();
                break;
            case 5:
            case 6:
                bridge();
                break;
            case 7:
                crossing();
                break;
            case 8:
            case 9:
                toCome();
                break;
            case 10:
            case 11:
                wigs();
                break;
            case 12:
                images();
                break;
            default:
                look();
                break;
        }
    }

    private void sayAll(String text) {
        for (int i = 0; i < text.length(); i++) {
            int sign = text.charAt(i);
            due("say " + sign, x.say(sign), y.say(sign));
        }
    }

    private String someText() {
        StringBuilder text = new StringBuilder();
        int parts = 1 + draws.nextInt(8);
        for (int n = 0; n < parts; n++) {
            int monk = draws.nextInt(6);
            char name = (char) ('A' + monk);
            int hair = y.told(10 + monk);
            switch (draws.nextInt(6)) {
                case 5:
                    text.append(name).append("-1").append(name).append(draws.nextInt(4));
                    break;
                case 0:
                    text.append(name).append('+').append((char) ('1' + draws.nextInt(Math.max(1, Math.min(9, 40 - hair)))));
                    break;
                case 1:
                case 2:
                    text.append(name).append('-').append((char) ('1' + draws.nextInt(Math.max(1, Math.min(9, hair)))));
                    break;
                case 3:
                    text.append(name).append((char) ('0' + (draws.nextInt(3) > 0 ? 0 : draws.nextInt(4))));
                    break;
                default:
                    text.append(draws.nextInt(3) == 0 ? "." : "");
                    break;
            }
        }
        if (draws.nextInt(8) == 0 && text.length() > 0) {
            text.setCharAt(draws.nextInt(text.length()), (char) (33 + draws.nextInt(94)));
        }
        return text.toString();
    }

    private void text() {
        sayAll(someText());
        if (draws.nextInt(10) == 0) {
            int sign = near(33, 126);
            due("say " + sign, x.say(sign), y.say(sign));
        }
        due("fault", x.fault(), y.fault());
        int what = near(0, 1);
        due("judge " + what, x.judge(what), y.judge(what));
        due("done", x.done(), y.done());
        if (y.told(0) > 0 && draws.nextInt(4) > 0) {
            due("wipe", x.wipe(), y.wipe());
        }
    }

    private void settings() {
        if (draws.nextInt(3) == 0) {
            int v = draws.nextBoolean() ? draws.nextInt(3) : near(0, 9);
            due("wear " + v, x.wear(v), y.wear(v));
            return;
        }
        int monk = near(0, 5);
        int what = near(0, 1);
        int v = what == 0 ? near(0, 40) : near(0, 9);
        due("monk " + monk + " " + what + " " + v, x.monk(monk, what, v), y.monk(monk, what, v));
    }

    private void bridge() {
        due("bears", x.bears(), y.bears());
        int rope = near(0, 3);
        due("power " + rope, x.power(rope), y.power(rope));
        int load = draws.nextBoolean() ? near(0, 99999) : y.bears() + draws.nextInt(5) - 2;
        due("broken " + load, x.broken(load), y.broken(load));
        int smaller = draws.nextInt(y.bears() + 1);
        due("broken " + smaller, x.broken(smaller), y.broken(smaller));
        int monk = near(0, 5);
        int part = near(0, 1);
        due("share " + monk + " " + part, x.share(monk, part), y.share(monk, part));
        due("led " + monk + " " + part, x.led(monk, part), y.led(monk, part));
        int lock = near(0, 7);
        int what = near(0, 2);
        due("lock " + rope + " " + lock + " " + what, x.lock(rope, lock, what), y.lock(rope, lock, what));
    }

    private void crossing() {
        if (draws.nextInt(6) == 0) {
            due("drop", x.drop(), y.drop());
        }
        int weight = draws.nextInt(5) == 0 ? near(0, 9999) : draws.nextInt(y.bears() + 10);
        int worth = near(0, 99);
        due("load " + weight + " " + worth, x.load(weight, worth), y.load(weight, worth));
        if (draws.nextInt(4) == 0) {
            for (int i = -2; i < 7; i++) {
                due("best " + i, x.best(i), y.best(i));
            }
        }
    }

    private void toCome() {
        int bears = y.bears();
        int need = draws.nextInt(6) == 0 ? near(0, 9999) : draws.nextInt(bears + 60);
        if (draws.nextInt(3) > 0) {
            int rope = near(0, 3);
            int set = near(1, 63);
            int d = near(1, 9);
            due("soon " + set + " " + d + " " + rope + " " + need, x.soon(set, d, rope, need), y.soon(set, d, rope, need));
            int seed = near(0, 9999);
            int weeks = near(1, 60);
            int what = near(0, 1);
            due("year " + seed + " " + weeks + " " + what, x.year(seed, weeks, what), y.year(seed, weeks, what));
            return;
        }
        int w = Math.min(near(0, 4), monksInBasket() > 3 ? 2 : 9);
        for (int i = -1; i < Math.min(w, 4); i++) {
            due("renewed " + w + " " + need + " " + i, x.renewed(w, need, i), y.renewed(w, need, i));
        }
        int i = near(-1, Math.max(0, w - 1));
        due("renewed " + w + " " + need + " " + i, x.renewed(w, need, i), y.renewed(w, need, i));
    }

    /** PlainBridge goes through each way: too many ways are not asked of it. */
    private int monksInBasket() {
        int monks = 0;
        for (int monk = 0; monk < 6; monk++) {
            monks += y.told(30 + monk) > 0 ? 1 : 0;
        }
        return monks;
    }

    private void wigs() {
        if (draws.nextInt(5) == 0) {
            due("forget", x.forget(), y.forget());
        }
        int set = near(1, 63);
        int weight = draws.nextInt(4) == 0 ? near(0, 240) : someWeight(set);
        due("weighed " + set + " " + weight, x.weighed(set, weight), y.weighed(set, weight));
        due("canBe", x.canBe(-1), y.canBe(-1));
        int i = near(0, Math.max(0, y.canBe(-1) - 1));
        due("canBe " + i, x.canBe(i), y.canBe(i));
        int what = near(0, 2);
        due("sure " + what, x.sure(what), y.sure(what));
    }

    private int someWeight(int set) {
        int weight = 0;
        for (int monk = 0; monk < 6; monk++) {
            weight += (set >> monk & 1) != 0 && draws.nextInt(3) > 0 ? y.told(10 + monk) : 0;
        }
        return weight;
    }

    private void images() {
        int n = near(0, 1);
        if (draws.nextInt(3) > 0) {
            due("image " + n, x.image(n), y.image(n));
        } else {
            due("restore " + n, x.restore(n), y.restore(n));
        }
    }

    private void look() {
        int what = near(0, 44);
        due("told " + what, x.told(what), y.told(what));
        for (int each : new int[] {0, 1, 2, 3, 4, 10, 15, 20, 25, 30, 35, 40, 43}) {
            due("told " + each, x.told(each), y.told(each));
        }
        for (int monk = 0; monk < 6; monk++) {
            due("led " + monk, x.led(monk, 1), y.led(monk, 1));
        }
        int rope = draws.nextInt(4);
        for (int lock = 0; lock < y.told(40 + rope); lock++) {
            for (int of = 0; of < 3; of++) {
                due("lock " + rope + " " + lock + " " + of, x.lock(rope, lock, of), y.lock(rope, lock, of));
            }
        }
    }
}
