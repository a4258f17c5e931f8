/** A HairBridge that counts its calls: the document promises nothing behind the 512th, so no test may go there. */
final class Bridge {
    static final int MOST_CALLS = 512;

    private final HairBridge x = new HairBridge();
    private int calls = 0;

    int left() {
        return MOST_CALLS - calls;
    }

    private HairBridge called() {
        calls++;
        if (calls > MOST_CALLS) {
            throw new IllegalStateException("a test makes more than 512 calls on one object");
        }
        return x;
    }

    int monk(int monk, int what, int v) {
        return called().monk(monk, what, v);
    }

    int wear(int v) {
        return called().wear(v);
    }

    int say(int sign) {
        return called().say(sign);
    }

    int wipe() {
        return called().wipe();
    }

    int fault() {
        return called().fault();
    }

    int judge(int what) {
        return called().judge(what);
    }

    int done() {
        return called().done();
    }

    int lock(int rope, int lock, int what) {
        return called().lock(rope, lock, what);
    }

    int power(int rope) {
        return called().power(rope);
    }

    int bears() {
        return called().bears();
    }

    int broken(int load) {
        return called().broken(load);
    }

    long share(int monk, int part) {
        return called().share(monk, part);
    }

    int led(int monk, int what) {
        return called().led(monk, what);
    }

    int load(int weight, int worth) {
        return called().load(weight, worth);
    }

    int drop() {
        return called().drop();
    }

    int best(int i) {
        return called().best(i);
    }

    int renewed(int w, int need, int i) {
        return called().renewed(w, need, i);
    }

    int soon(int set, int d, int rope, int need) {
        return called().soon(set, d, rope, need);
    }

    int weighed(int set, int weight) {
        return called().weighed(set, weight);
    }

    int forget() {
        return called().forget();
    }

    int canBe(int i) {
        return called().canBe(i);
    }

    int sure(int what) {
        return called().sure(what);
    }

    int year(int seed, int w, int what) {
        return called().year(seed, w, what);
    }

    int image(int n) {
        return called().image(n);
    }

    int restore(int n) {
        return called().restore(n);
    }

    int told(int what) {
        return called().told(what);
    }
}
