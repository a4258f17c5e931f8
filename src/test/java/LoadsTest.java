/** Promises 15 to 19: loads that would cross, locks to come. */
public final class LoadsTest {
    private static final Checks CHECKS = new Checks();

    private static void due(String call, long got, long want) {
        CHECKS.due(call, got, want);
    }

    public static void main(String[] args) {
        load();
        best();
        bestWithoutRopes();
        renewedRefused();
        renewed();
        renewedRoom();
        renewedByLittle();
        soon();
        soonFullRope();
        soonLate();
        CHECKS.end();
    }

    private static void load() {
        Bridge x = new Bridge();
        due("16 none", x.drop(), 0);
        due("15 least", x.load(0, 0), 1);
        due("15 most", x.load(9999, 99), 2);
        due("15 weight below", x.load(-1, 0), HairBridge.OUTSIDE);
        due("15 weight above", x.load(10000, 0), HairBridge.OUTSIDE);
        due("15 worth below", x.load(0, -1), HairBridge.OUTSIDE);
        due("15 worth above", x.load(0, 100), HairBridge.OUTSIDE);
        due("15 unchanged", x.told(3), 2);
        for (int n = 3; n <= 6; n++) {
            due("15 load " + n, x.load(n, n), n);
        }
        due("15 full", x.load(1, 1), HairBridge.FULL);
        due("15 outside ahead of full", x.load(1, 100), HairBridge.OUTSIDE);
        due("15 still 6", x.told(3), 6);
        due("16 six", x.drop(), 6);
        due("16 gone", x.told(3), 0);
        due("15 from the start", x.load(1, 1), 1);
    }

    private static void dueBest(String what, Bridge x, int worth, int... order) {
        due("17 " + what, x.best(-1), worth);
        for (int i = 0; i < order.length; i++) {
            due("17 " + what + ", " + i, x.best(i), order[i]);
        }
        due("17 " + what + ", no more", x.best(order.length), HairBridge.NONE);
        due("17 " + what + ", below", x.best(-2), HairBridge.NONE);
        due("17 " + what + ", far", x.best(Integer.MAX_VALUE), HairBridge.NONE);
    }

    private static void best() {
        Bridge x = new Bridge();
        Checks.act(x, "A-4A0");
        dueBest("no loads", x, 0);
        x.load(21, 50);
        dueBest("too heavy stays", x, 0, 0);
        x.load(20, 3);
        dueBest("as heavy as it bears", x, 3, 0, 1);
        x.load(10, 5);
        x.load(15, 4);
        dueBest("each wears an inch", x, 12, 0, 1, 3, 2);
        x.load(0, 2);
        dueBest("no weight crosses at last", x, 14, 0, 1, 3, 2, 4);
        x.load(5, 9);
        dueBest("one more inch", x, 23, 0, 1, 3, 2, 5, 4);
        x.drop();
        x.load(20, 5);
        x.load(20, 5);
        x.load(20, 6);
        dueBest("one alone", x, 6, 2, 0, 1);
        x.drop();
        x.load(20, 5);
        x.load(20, 5);
        dueBest("the first order of two", x, 5, 0, 1);
        x.drop();
        x.load(15, 1);
        x.load(20, 1);
        x.load(20, 9);
        dueBest("one that stays for good", x, 10, 2, 0, 1);
    }

    private static void bestWithoutRopes() {
        Bridge x = new Bridge();
        x.load(1, 9);
        x.load(0, 7);
        dueBest("no ropes bear no weight but none", x, 7, 0, 1);
        Bridge y = new Bridge();
        Checks.act(y, "A-2A0B-2B1C-2C2D-2D3");
        y.load(40, 1);
        y.load(20, 1);
        y.load(1, 1);
        dueBest("four ropes wear alike", y, 2, 0, 1, 2);
    }

    private static void renewedRefused() {
        Bridge x = new Bridge();
        int outside = HairBridge.OUTSIDE;
        due("18 w below", x.renewed(-1, 0, -1), outside);
        due("18 w above", x.renewed(5, 0, -1), outside);
        due("18 need below", x.renewed(1, -1, -1), outside);
        due("18 need above", x.renewed(1, 10000, -1), outside);
        due("18 i below", x.renewed(1, 0, -2), outside);
        due("18 i above", x.renewed(1, 0, 1), outside);
        due("18 i without weeks", x.renewed(0, 0, 0), outside);
        due("18 i of four", x.renewed(4, 0, 4), outside);
        due("18 no weeks, any need", x.renewed(0, 9999, -1), 0);
        due("18 no need", x.renewed(4, 0, -1), 0);
        due("18 can not be", x.renewed(1, 1, -1), HairBridge.NONE);
        due("18 can not be, week", x.renewed(1, 1, 0), HairBridge.NONE);
    }

    private static void way(String what, Bridge x, int need, int inches, int... steps) {
        due("18 " + what, x.renewed(steps.length, need, -1), inches);
        for (int i = 0; i < steps.length; i++) {
            due("18 " + what + ", week " + i, x.renewed(steps.length, need, i), steps[i]);
        }
    }

    private static void renewed() {
        int none = HairBridge.NONE;
        Bridge x = new Bridge();
        Checks.act(x, "A-3A2B-4C-5E-1");
        way("nothing for as long as it holds", x, 5, 0, none, none);
        way("the fewest inches", x, 5, 1, none, none, 42);
        way("as late as can be", x, 10, 1, none, 42);
        way("in the rope that has some", x, 15, 1, 42);
        way("in the first rope that will do", x, 20, 4, 10);
        way("more than two ropes would bear", x, 25, 4, 12);
        way("the most of one week", x, 35, 5, 22);
        way("one a week at most", x, 36, none, none);
        way("one for all weeks", x, 15, 4, 12, none, none);
        way("of as few inches the first way", x, 30, 5, 12, 42);
        way("can not be", x, 200, none, none, none);
        x.monk(4, 1, 0);
        way("hair of no strength", x, 5, 4, none, none, 10);
        x.wear(9);
        way("all wears away", x, 1, none, none);
    }

    private static void renewedRoom() {
        Bridge x = new Bridge();
        x.wear(0);
        Checks.act(x, "A-1A0".repeat(8));
        Checks.act(x, "B-2");
        way("a full rope has no room", x, 41, HairBridge.NONE, HairBridge.NONE);
        way("another rope has", x, 40, 0, HairBridge.NONE);
        x.wear(1);
        way("a week makes room", x, 35, 2, HairBridge.NONE, 10);
    }

    /** Needs that are just met, by the least or by the strongest of the basket. */
    private static void renewedByLittle() {
        Bridge x = new Bridge();
        x.wear(0);
        Checks.act(x, "F-1");
        way("one inch is all there is", x, 5, 1, 50);
        way("no more than one inch", x, 6, HairBridge.NONE, HairBridge.NONE);
        Checks.act(x, "B-9A-1");
        way("the strongest is not the first", x, 45, 9, 10);
        way("the need is met behind each week", x, 46, HairBridge.NONE, HairBridge.NONE, HairBridge.NONE);
        Checks.act(x, "B3");
        way("the strongest is gone", x, 50, 1, 3);
        x.wear(1);
        way("an inch a week", x, 45, 2, 3, 53);
    }

    private static void soon() {
        Bridge x = new Bridge();
        int outside = HairBridge.OUTSIDE;
        due("19 no rope", x.soon(1, 1, 4, 1), HairBridge.UNKNOWN);
        due("19 no rope -1, ahead of all", x.soon(0, 0, -1, -1), HairBridge.UNKNOWN);
        due("19 set below", x.soon(0, 1, 0, 1), outside);
        due("19 set above", x.soon(64, 1, 0, 1), outside);
        due("19 d below", x.soon(1, 0, 0, 1), outside);
        due("19 d above", x.soon(1, 10, 0, 1), outside);
        due("19 need below", x.soon(1, 1, 0, -1), outside);
        due("19 need above", x.soon(1, 1, 0, 10000), outside);
        String before = Checks.look(x);
        due("19 no need", x.soon(1, 1, 0, 0), 0);
        due("19 a week", x.soon(1, 1, 0, 50), 1);
        due("19 wears more than it gains", x.soon(1, 1, 0, 51), HairBridge.NONE);
        due("19 two weeks", x.soon(1, 2, 0, 56), 2);
        due("19 more sinners", x.soon(33, 1, 3, 105), 1);
        due("19 never", x.soon(63, 9, 0, 9999), HairBridge.NONE);
        CHECKS.holds("19 nothing is done in fact", before.equals(Checks.look(x)));
        x.monk(0, 0, 40);
        due("19 as far as 40", x.soon(1, 9, 0, 195), 1);
        due("19 no farther", x.soon(1, 9, 0, 196), 2);
        Checks.act(x, "B-9B0C-9");
        due("19 at once", x.soon(1, 1, 3, 45), 0);
        due("19 what was in the basket", x.soon(4, 1, 0, 45 + 55 - 5), 1);
    }

    private static void soonFullRope() {
        Bridge x = new Bridge();
        x.wear(0);
        Checks.act(x, "A-1A0".repeat(7));
        due("19 room for one of two", x.soon(48, 5, 0, 35 + 75), 1);
        due("19 a full rope", x.soon(48, 5, 0, 35 + 76), HairBridge.NONE);
        due("19 by numbers", x.soon(48, 5, 1, 151), 2);
        Bridge y = new Bridge();
        y.wear(1);
        for (int n = 0; n < 3; n++) {
            y.monk(0, 0, 40);
            Checks.act(y, "A-9A-9A-9A-4");
        }
        y.monk(0, 0, 40);
        due("19 the basket takes 99", y.soon(1, 1, 0, 98 * 5), 1);
        due("19 what is more is lost", y.soon(1, 1, 0, 98 * 5 + 1), HairBridge.NONE);
        due("19 gains by more sin", y.soon(1, 2, 0, 98 * 5 + 1), 2);
    }

    /** Nine inches come and eight go each week: one more inch behind each week. */
    private static void soonLate() {
        Bridge x = new Bridge();
        x.wear(8);
        x.monk(0, 0, 0);
        due("19 the first inch", x.soon(1, 9, 2, 5), 1);
        due("19 thirty weeks", x.soon(1, 9, 2, 150), 30);
        due("19 thirty-one are too many", x.soon(1, 9, 2, 151), HairBridge.NONE);
    }
}
