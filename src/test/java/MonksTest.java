/** Promises 1 to 9: monks, the pad, texts, weeks, locks. */
public final class MonksTest {
    private static final Checks CHECKS = new Checks();

    private static void due(String call, long got, long want) {
        CHECKS.due(call, got, want);
    }

    public static void main(String[] args) {
        newObject();
        monk();
        wear();
        say();
        wipe();
        fault();
        judge();
        done();
        weeks();
        lock();
        CHECKS.end();
    }

    private static void newObject() {
        Bridge x = new Bridge();
        int[] first = {0, 1, 0, 0, 0};
        for (int what = 0; what < 5; what++) {
            due("1 told " + what, x.told(what), first[what]);
        }
        for (int m = 0; m < 6; m++) {
            due("1 hair of " + m, x.told(10 + m), 10);
            due("1 strong of " + m, x.told(20 + m), 5);
            due("1 basket of " + m, x.told(30 + m), 0);
            due("1 led of " + m, x.led(m, 0), 0);
            due("1 worn of " + m, x.led(m, 1), 0);
        }
        for (int r = 0; r < 4; r++) {
            due("1 locks of " + r, x.told(40 + r), 0);
            due("1 power of " + r, x.power(r), 0);
            due("1 no lock in " + r, x.lock(r, 0, 0), HairBridge.UNKNOWN);
        }
        due("1 bears", x.bears(), 0);
        due("1 no image", x.restore(0), HairBridge.STATE);
    }

    private static void monk() {
        Bridge x = new Bridge();
        for (int m = 0; m < 6; m++) {
            due("2 hair 0", x.monk(m, 0, 0), 10);
            due("2 hair 40", x.monk(m, 0, 40), 0);
            due("2 hair back", x.monk(m, 0, 30 + m), 40);
            due("2 strong 0", x.monk(m, 1, 0), 5);
            due("2 strong 9", x.monk(m, 1, 9), 0);
            due("2 strong back", x.monk(m, 1, m), 9);
        }
        for (int m = 0; m < 6; m++) {
            due("2 told hair", x.told(10 + m), 30 + m);
            due("2 told strong", x.told(20 + m), m);
        }
        String before = Checks.look(x);
        due("2 no monk", x.monk(-1, 0, 1), HairBridge.UNKNOWN);
        due("2 no monk ahead of all", x.monk(6, 7, 99), HairBridge.UNKNOWN);
        due("2 least int", x.monk(Integer.MIN_VALUE, 0, 1), HairBridge.UNKNOWN);
        due("2 what", x.monk(0, 2, 1), HairBridge.OUTSIDE);
        due("2 what below", x.monk(0, -1, 1), HairBridge.OUTSIDE);
        due("2 hair below", x.monk(0, 0, -1), HairBridge.OUTSIDE);
        due("2 hair above", x.monk(0, 0, 41), HairBridge.OUTSIDE);
        due("2 strong below", x.monk(0, 1, -1), HairBridge.OUTSIDE);
        due("2 strong above", x.monk(0, 1, 10), HairBridge.OUTSIDE);
        CHECKS.holds("2 refused calls change nothing", before.equals(Checks.look(x)));
    }

    private static void wear() {
        Bridge x = new Bridge();
        due("3 wear 9", x.wear(9), 1);
        due("3 wear 0", x.wear(0), 9);
        due("3 below", x.wear(-1), HairBridge.OUTSIDE);
        due("3 above", x.wear(10), HairBridge.OUTSIDE);
        due("3 unchanged", x.told(1), 0);
    }

    private static void say() {
        Bridge x = new Bridge();
        due("4 least sign", x.say(33), 1);
        due("4 greatest sign", x.say(126), 2);
        due("4 below", x.say(32), HairBridge.OUTSIDE);
        due("4 above", x.say(127), HairBridge.OUTSIDE);
        due("4 far below", x.say(Integer.MIN_VALUE), HairBridge.OUTSIDE);
        due("4 unchanged", x.told(0), 2);
        for (int n = 3; n <= 60; n++) {
            due("4 sign " + n, x.say('.'), n);
        }
        due("4 full", x.say('.'), HairBridge.FULL);
        due("4 outside ahead of full", x.say(0), HairBridge.OUTSIDE);
        due("4 still 60", x.told(0), 60);
    }

    private static void wipe() {
        Bridge x = new Bridge();
        due("5 nothing there", x.wipe(), 0);
        Checks.write(x, "A+1");
        due("5 three", x.wipe(), 3);
        due("5 gone", x.told(0), 0);
        due("5 not done", x.told(10), 10);
        due("5 again", x.wipe(), 0);
    }

    private static int faultOf(String text) {
        Bridge x = new Bridge();
        Checks.write(x, text);
        return x.fault();
    }

    private static void fault() {
        String[] without = {"", ".", "A+1", "F-9", "A0", "F3", "...", "A+1B-2C0.D3", "A+9A+9"};
        for (String text : without) {
            due("6 " + text, faultOf(text), HairBridge.NONE);
        }
        due("6 more must come", faultOf("A"), 1);
        due("6 more must come behind +", faultOf("A+"), 2);
        due("6 more must come behind -", faultOf(".A-"), 3);
        due("6 no monk G", faultOf("G"), 0);
        due("6 no monk @", faultOf("@+1"), 0);
        due("6 small letter", faultOf("a+1"), 0);
        due("6 a digit alone", faultOf("1"), 0);
        due("6 + alone", faultOf(".+1"), 1);
        due("6 no rope 4", faultOf("A4"), 1);
        due("6 no rope /", faultOf("A/"), 1);
        due("6 . behind a monk", faultOf("A."), 1);
        due("6 , is not -", faultOf("A,1"), 1);
        due("6 two monks", faultOf("AB"), 1);
        due("6 +0", faultOf("A+0"), 2);
        due("6 -0", faultOf("A-0"), 2);
        due("6 +:", faultOf("A+:"), 2);
        due("6 ++", faultOf("A++1"), 2);
        due("6 digit behind a part", faultOf("A+11"), 3);
        due("6 digit behind a rope", faultOf("A01"), 2);
        due("6 the first of two", faultOf("A0xx"), 2);
        due("6 60 signs", faultOf(".".repeat(59) + "A"), 60);
        due("6 60 signs without", faultOf(".".repeat(60)), HairBridge.NONE);
    }

    private static void judged(String what, Bridge x, String text, int part, int why) {
        Checks.write(x, text);
        due("7 " + what + ": the part", x.judge(0), part);
        due("7 " + what + ": why", x.judge(1), why);
        x.wipe();
    }

    private static void judge() {
        int none = HairBridge.NONE;
        Bridge x = new Bridge();
        judged("empty", x, "", none, none);
        judged("good", x, "A+9A-9A0.", none, none);
        judged("a fault", x, "A+", HairBridge.NO, HairBridge.NO);
        due("7 what", x.judge(2), HairBridge.OUTSIDE);
        due("7 what below", x.judge(-1), HairBridge.OUTSIDE);
        Checks.write(x, "A+");
        due("7 outside ahead of no", x.judge(2), HairBridge.OUTSIDE);
        x.wipe();
        x.monk(1, 0, 31);
        judged("as far as 40", x, "B+9", none, none);
        judged("above 40", x, "B+9B+1", 1, 1);
        judged("all of it", x, "A-9A-1", none, none);
        judged("less than is cut", x, ".A-9A-1A-1", 3, 2);
        judged("none in the basket", x, "A-1A0A1", 2, 3);
        judged("none of his", x, "A-1B0", 1, 3);
        judged("the first, not the least", x, "A0B+9B+9", 0, 3);
        basketOf99();
        fullRope();
    }

    private static void basketOf99() {
        Bridge x = new Bridge();
        for (int n = 0; n < 3; n++) {
            x.monk(2, 0, 40);
            due("7 to the basket", Checks.act(x, "C-9C-9C-9C-4"), 4);
        }
        due("7 basket", x.told(32), 93);
        x.monk(2, 0, 8);
        judged("99 is not too much", x, "C-6", HairBridge.NONE, HairBridge.NONE);
        judged("more than 99", x, "C-7", 0, 5);
        judged("the least reason", x, "C-9", 0, 2);
        judged("another's basket", x, "C-6D-9", HairBridge.NONE, HairBridge.NONE);
        due("7 all 99", Checks.act(x, "C-6C0"), 2);
        due("7 a lock of 99", x.lock(0, 0, 1), 99);
    }

    private static void fullRope() {
        Bridge x = new Bridge();
        due("7 eight locks", Checks.act(x, "A-1A1".repeat(8)), 16);
        judged("the rope is full", x, "B-1B1", 1, 4);
        judged("none in the basket is less", x, "B1", 0, 3);
        judged("a week makes room", x, "B-1.B1", HairBridge.NONE, HairBridge.NONE);
        judged("another rope has room", x, "B-1B0C-1C2D-1D3", HairBridge.NONE, HairBridge.NONE);
    }

    private static void done() {
        Bridge x = new Bridge();
        due("8 empty", x.done(), 0);
        due("8 parts", Checks.act(x, "A+9B-4B2."), 4);
        due("8 the pad is empty", x.told(0), 0);
        due("8 grown", x.told(10), 19);
        due("8 cut", x.told(11), 6);
        due("8 the basket is empty", x.told(31), 0);
        due("8 woven in and worn", x.lock(2, 0, 1), 3);
        due("8 a week", x.told(2), 1);
        Checks.write(x, "A+1C");
        String before = Checks.look(x);
        due("8 a fault", x.done(), HairBridge.NO);
        CHECKS.holds("8 a fault changes nothing", before.equals(Checks.look(x)));
        x.wipe();
        Checks.write(x, "A+1.B-9");
        before = Checks.look(x);
        due("8 a part that can not be", x.done(), HairBridge.NO);
        CHECKS.holds("8 nothing is half done", before.equals(Checks.look(x)));
        due("8 the pad stays", x.told(0), 7);
        x.wipe();
        due("8 the basket adds up", Checks.act(x, "C-2C-3"), 2);
        due("8 in the basket", x.told(32), 5);
        due("8 all of his is woven in", Checks.act(x, "C2"), 1);
        due("8 the newest lock", x.lock(2, 1, 1), 5);
    }

    private static void weeks() {
        Bridge x = new Bridge();
        x.wear(0);
        due("8 locks", Checks.act(x, "A-2A0B-3B0C-4C0D-1D1"), 8);
        due("8 a week of no wear", Checks.act(x, ".."), 2);
        due("8 nothing worn", x.told(40), 3);
        due("8 two weeks", x.told(2), 2);
        x.wear(4);
        due("8 a week of wear", Checks.act(x, "."), 1);
        due("8 the oldest is gone", x.told(40), 2);
        due("8 the next is worn", x.lock(0, 0, 1), 1);
        due("8 whose it is", x.lock(0, 0, 0), 1);
        due("8 the newest is whole", x.lock(0, 1, 1), 4);
        due("8 a short rope is gone", x.told(41), 0);
        x.wear(1);
        due("8 the last inch", Checks.act(x, "."), 1);
        due("8 no inches, no lock", x.told(40), 1);
        due("8 now the third", x.lock(0, 0, 0), 2);
    }

    private static void lock() {
        Bridge x = new Bridge();
        x.wear(1);
        Checks.act(x, "A-5A3.B-6B3..C-2C3");
        int[][] want = {{0, 2, 3}, {1, 6, 2}, {2, 2, 0}};
        for (int lock = 0; lock < 3; lock++) {
            for (int what = 0; what < 3; what++) {
                due("9 lock " + lock + ", " + what, x.lock(3, lock, what), want[lock][what]);
            }
        }
        Checks.act(x, "..");
        int[][] later = {{1, 6, 4}, {2, 2, 2}};
        for (int lock = 0; lock < 2; lock++) {
            for (int what = 0; what < 3; what++) {
                due("9 lock " + lock + " behind the oldest, " + what, x.lock(3, lock, what), later[lock][what]);
            }
        }
        due("9 the last lock has moved up", x.lock(3, 2, 0), HairBridge.UNKNOWN);
        due("9 no lock 3", x.lock(3, 3, 0), HairBridge.UNKNOWN);
        due("9 no lock -1", x.lock(3, -1, 0), HairBridge.UNKNOWN);
        due("9 no rope", x.lock(4, 0, 0), HairBridge.UNKNOWN);
        due("9 no rope -1", x.lock(-1, 0, 0), HairBridge.UNKNOWN);
        due("9 unknown ahead of outside", x.lock(3, 3, 3), HairBridge.UNKNOWN);
        due("9 what", x.lock(3, 0, 3), HairBridge.OUTSIDE);
        due("9 what below", x.lock(3, 0, -1), HairBridge.OUTSIDE);
        due("9 far above", x.lock(Integer.MAX_VALUE, Integer.MAX_VALUE, 0), HairBridge.UNKNOWN);
    }
}
