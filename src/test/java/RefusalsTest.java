/**
 * "They change nothing", and "nothing is done in fact": each call that can be refused, by each number
 * that is too small or too large, and each call that only tells, on objects that have a bit of
 * everything and on full ones. That nothing changes is seen by the twin of each run (see Sentences).
 */
public final class RefusalsTest {
    private static final Sentences S = new Sentences();

    private static final String KEPT = "wear 2; monk 3 1 7; act A-5A0B-3B0D-9D3.C-4F+2E-1E2 = 11; load 10 3; load 4 8;"
        + "weighed 5 11; image 0;";
    /** Both IMAGES kept, LOCKS in each ROPE, some in THE BASKET, LOADS and WEIGHINGS that mean something. */
    private static final String SOME = KEPT + "monk 0 0 33; act B-1B1A-2C0. = 5; load 9 9; forget; weighed 3 33; image 1;"
        + "act A1C-2 = 2; monk 1 1 9; load 0 1;";
    private static final String[] STATES = {
        "",
        SOME,
        SOME + "text A+1B-3B2; judge 0 = NONE;",
        SOME + "text A+1F0;",
        SOME + "text A+1.x;",
        SOME + "weighed 3 34; text A;",
        "monk 2 0 33; act C-9C-9C-9C-6 = 4;".repeat(3) + "act " + "A-1A0".repeat(8) + " = 16;" + "load 5 5;".repeat(5)
        + "load 0 9;"
            + "weighed 1 2;".repeat(6) + "image 1; text " + "C-1".repeat(20) + ";",
    };

    private static final String[] UNKNOWN = {
        "monk -1 0 1", "monk 6 0 1", "monk -1 1 1", "monk 6 1 1", "monk 6 2 1", "monk -1 0 41",
        "lock -1 0 0", "lock 4 0 0", "lock 0 -1 0", "lock 0 8 0", "lock 4 0 3", "lock 0 8 -1",
        "power -1", "power 4", "led -1 0", "led 6 0", "led -1 1", "led 6 2",
        "soon 1 1 -1 1", "soon 1 1 4 1", "soon 0 1 4 1", "soon 1 10 -1 1", "soon 1 1 4 10000",
    };
    private static final String[] OUTSIDE = {
        "monk 0 -1 1", "monk 0 2 1", "monk 0 0 -1", "monk 0 0 41", "monk 5 1 -1", "monk 5 1 10",
        "wear -1", "wear 10", "say 32", "say 127", "judge -1", "judge 2",
        "broken -1", "broken 100000", "led 0 -1", "led 5 2",
        "load -1 1", "load 10000 1", "load 1 -1", "load 1 100",
        "renewed -1 0 -1", "renewed 5 0 -1", "renewed 1 -1 -1", "renewed 1 10000 -1", "renewed 1 0 -2", "renewed 1 0 1", "renewed 0 0 0",
        "soon 0 1 0 1", "soon 64 1 0 1", "soon 1 0 0 1", "soon 1 10 0 1", "soon 1 1 0 -1", "soon 1 1 0 10000",
        "weighed 0 1", "weighed 64 1", "weighed 1 -1", "weighed 1 241", "sure -1", "sure 3",
        "year -1 1 0", "year 10000 1 0", "year 0 0 0", "year 0 61 0", "year 0 1 -1", "year 0 1 2",
        "image -1", "image 2", "restore -1", "restore 2", "told -1", "told 5", "told 9", "told 16", "told 26", "told 36", "told 44",
    };
    private static final String[] ONLY_TELL = {
        "fault", "judge 0", "judge 1", "lock 0 0 0", "lock 0 0 1", "lock 0 0 2", "power 0", "power 3", "bears", "broken 0", "broken 20",
        "broken 99999", "share 0 0", "share 3 1", "led 0 0", "led 0 1", "best -1", "best 0", "best 5", "best 6", "best -2",
        "renewed 0 0 -1", "renewed 2 20 -1", "renewed 2 20 1", "renewed 3 9999 0", "renewed 4 0 3", "soon 63 9 0 9999", "soon 1 1 3 60",
        "soon 5 3 1 0", "canBe -1", "canBe 0", "canBe 64", "canBe -2", "sure 0", "sure 1", "sure 2", "year 0 60 0", "year 9999 60 1",
        "year 17 1 0", "told 0", "told 15", "told 43",
    };

    public static void main(String[] args) {
        for (String state : STATES) {
            refused(state, UNKNOWN, "UNKNOWN");
            refused(state, OUTSIDE, "OUTSIDE");
            for (String call : new String[] {"share -1 0", "share 6 1", "share 6 2"}) {
                S.holds("13: " + call + " changes nothing", state + call + " = GONE+UNKNOWN");
            }
            for (String call : new String[] {"share 0 -1", "share 5 2"}) {
                S.holds("13: " + call + " changes nothing", state + call + " = GONE+OUTSIDE");
            }
            for (String call : ONLY_TELL) {
                S.holds("of all: " + call + " changes nothing", state + call + ";" + call);
            }
        }
        refusedByState();
        S.end();
    }

    private static void refused(String state, String[] calls, String due) {
        for (String call : calls) {
            S.holds("of all: " + call + " is refused, and changes nothing",
                state + call + " = " + due + ";" + call + " = " + due);
        }
    }

    private static void refusedByState() {
        String full = STATES[6];
        S.holds("4: FULL changes nothing", full + "say 46 = FULL; say 65 = FULL");
        S.holds("15: FULL changes nothing", full + "load 1 1 = FULL; load 0 99 = FULL; load 9999 0 = FULL");
        S.holds("20: FULL changes nothing", full + "weighed 1 2 = FULL; weighed 63 240 = FULL");
        S.holds("8: NO, a PART that can not be, changes nothing", full + "done = NO; done = NO");
        S.holds("26: STATE changes nothing", full + "restore 0 = STATE");
        S.holds("8: NO, a later PART can not be, changes nothing", STATES[3] + "done = NO; judge 0 = 1; judge 1 = 3");
        S.holds("8: NO, a FAULT, changes nothing", STATES[4] + "done = NO; fault = 4");
        S.holds("7: NO, a FAULT, changes nothing", STATES[4] + "judge 0 = NO; judge 1 = NO");
        S.holds("8: NO, more must come, changes nothing", STATES[5] + "done = NO; fault = 1; judge 0 = NO");
        S.holds("23: NO, none CAN BE, changes nothing", STATES[5] + "canBe -1 = 0; sure 0 = NO; sure 1 = NO; sure 2 = NO");
        S.holds("13: STATE, no POWER, changes nothing",
            "wear 9; act A-5A0; load 0 1; share 0 0 = 1; act .; share 0 0 = GONE+STATE; share 5 1 = GONE+STATE");
    }
}
