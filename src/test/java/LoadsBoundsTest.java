/** Promises 15 to 19, sentence by sentence: first and last numbers, empty and full, refusals. */
public final class LoadsBoundsTest {
    private static final Sentences S = new Sentences();
    private static final String SIX_LOADS = "load 1 1 = 1; load 2 2 = 2; load 3 3 = 3; load 4 4 = 4; load 5 5 = 5; load 6 6 = 6;";
    /** Eight LOCKS of an inch each in ROPE 0: it has no room. */
    private static final String FULL_ROPE = "act " + "A-1A0".repeat(8) + " = 16;";

    public static void main(String[] args) {
        load();
        drop();
        best();
        bestCrossing();
        bestOrder();
        renewedRefused();
        renewedNeed();
        renewedRopes();
        renewedFirstWay();
        renewedMostInches();
        soonRefused();
        soonWeeks();
        soonBounds();
        S.end();
    }

    private static void load() {
        S.holds("15: weight (0 to 9999)",
            "load 0 5 = 1; load 9999 5 = 2; load -1 5 = OUTSIDE; load 10000 5 = OUTSIDE; told 3 = 2");
        S.holds("15: worth (0 to 99)", "load 5 0 = 1; load 5 99 = 2; load 5 -1 = OUTSIDE; load 5 100 = OUTSIDE; told 3 = 2");
        S.holds("15: OUTSIDE, far beyond",
            "load MIN 0 = OUTSIDE; load MAX 0 = OUTSIDE; load 0 MIN = OUTSIDE; load 0 MAX = OUTSIDE; load 65536 0 = OUTSIDE;"
            + "load 0 256 = OUTSIDE");
        S.holds("15: LOADS, 6 at most; FULL", SIX_LOADS + "load 1 1 = FULL; told 3 = 6; best 6 = NONE; best 5 = 5");
        S.holds("15: FULL: the six stay as they are",
            "act A-9A0;" + SIX_LOADS + "load 0 99 = FULL; best -1 = 21; load 9999 0 = FULL; best -1 = 21; drop = 6");
        S.holds("15: OUTSIDE ahead of FULL",
            SIX_LOADS + "load -1 1 = OUTSIDE; load 10000 1 = OUTSIDE; load 1 -1 = OUTSIDE; load 1 100 = OUTSIDE;"
            + "load 0 0 = FULL");
        S.holds("15: a refused LOAD is none",
            "load 0 100 = OUTSIDE; told 3 = 0; best -1 = 0; best 0 = NONE; load 0 7 = 1; best -1 = 7");
    }

    private static void drop() {
        S.holds("16: LOADS go, none there", "drop = 0; told 3 = 0; drop = 0");
        S.holds("16: LOADS go, one", "load 0 9; drop = 1; told 3 = 0; best -1 = 0; best 0 = NONE; drop = 0");
        S.holds("16: LOADS go, six, and there is room again",
            SIX_LOADS + "drop = 6; told 3 = 0; load 0 4 = 1; best -1 = 4; best 1 = NONE");
        S.holds("16: WEIGHINGS stay", "load 1 1; weighed 1 0; drop = 1; told 4 = 1");
    }

    private static void best() {
        S.holds("17: no LOADS: no worth, no order", "best -1 = 0; best 0 = NONE");
        S.holds("17: the worth (i = -1), the i-th of the order; NONE",
            "act A-9A0; load 1 4; load 1 5; best -1 = 9; best 0 = 0; best 1 = 1; best 2 = NONE; best -2 = NONE;"
            + "best MIN = NONE; best MAX = NONE");
        S.holds("17: NONE below -1 without LOADS", "best -2 = NONE; best 1 = NONE");
        S.holds("17: the order of six", "act A-9A0;" + SIX_LOADS + "best -1 = 21; best 0 = 0; best 5 = 5; best 6 = NONE");
        S.holds("17: the most worth of six", "load 0 99;".repeat(6) + "best -1 = 594");
        S.holds("17: the worth of none", "load 1 99; load 1 99; best -1 = 0; best 0 = 0; best 1 = 1");
        S.holds("17: worth 0", "load 0 0; best -1 = 0; best 0 = 0; best 1 = NONE");
        S.holds("17: nothing wears in fact",
            "act A-3A0; load 0 1; load 5 1; best -1 = 2; best 0 = 0; lock 0 0 1 = 3; led 0 1 = 0; told 2 = 0; told 3 = 2;"
            + "best -1 = 2");
    }

    private static void bestCrossing() {
        S.holds("17: one that is no more than the bridge BEARS crosses", "act A-4A0; load 20 7; best -1 = 7");
        S.holds("17: one that is more stays", "act A-4A0; load 21 7; best -1 = 0; best 0 = 0");
        S.holds("17: a weight of 0 crosses without ROPES", "load 1 9; load 0 7; best -1 = 7; best 0 = 0; best 1 = 1");
        S.holds("17: each crossing takes an inch",
            "act A-2A0; load 5 1; load 5 1; load 5 1; best -1 = 2; best 0 = 0; best 1 = 1; best 2 = 2");
        S.holds("17: an inch, also if WEAR is 0", "wear 0; act A-2A0; load 10 1; load 10 1; best -1 = 1");
        S.holds("17: an inch, also if WEAR is 9", "wear 9; act A-3A0; load 15 1; load 10 1; load 5 1; best -1 = 3");
        S.holds("17: each ROPE loses an inch",
            "act A-2A0B-2B1C-2C2D-2D3; load 40 1; load 20 2; load 1 4; best -1 = 6; best 0 = 1; best 1 = 0; best 2 = 2");
        S.holds("17: the oldest first",
            "monk 0 1 1; monk 1 1 9; act A-1A0B-2B0; load 18 5; load 19 5; best -1 = 10; best 0 = 1; best 1 = 0");
        S.holds("17: the oldest first, the strong one",
            "monk 0 1 9; monk 1 1 1; act A-1A0B-2B0; load 3 5; load 11 5; best -1 = 5; best 0 = 0; best 1 = 1");
        S.holds("17: one that stays takes no inch", "act A-1A0; load 6 9; load 5 3; best -1 = 3; best 0 = 0; best 1 = 1");
        S.holds("17: one of no worth takes an inch too", "act A-1A0; load 0 0; load 5 3; best -1 = 3; best 0 = 1; best 1 = 0");
        S.holds("17: a ROPE that is gone", "act A-1A0B-3B1; load 15 1; load 10 1; load 5 1; load 1 1; best -1 = 3; best 0 = 0");
        S.holds("17: through eight LOCKS",
            FULL_ROPE + "load 40 1; load 35 1; load 30 1; load 25 1; load 20 1; load 15 1; best -1 = 6; best 0 = 0; best 5 = 5");
        S.holds("17: STRONG as it is now",
            "act A-2A0; load 18 1; load 10 1; best -1 = 1; monk 0 1 9; best -1 = 1; best 0 = 0; monk 0 1 0; best -1 = 0");
    }

    private static void bestOrder() {
        S.holds("17: the first order by numbers, if all are alike", "act A-1A0;" + "load 5 5;".repeat(6)
            + "best -1 = 5; best 0 = 0; best 1 = 1; best 2 = 2; best 3 = 3; best 4 = 4; best 5 = 5");
        S.holds("17: the most worth ahead of the numbers",
            "act A-1A0; load 5 5; load 5 6; load 5 6; best -1 = 6; best 0 = 1; best 1 = 0; best 2 = 2");
        S.holds("17: any order: the heavy one first",
            "act A-3A0; load 5 1; load 10 1; load 15 1; best -1 = 3; best 0 = 2; best 1 = 1; best 2 = 0");
        S.holds("17: one that stays stands where it comes first",
            "act A-3A0; load 99 9; load 5 1; load 15 1; load 10 1; best -1 = 3; best 0 = 0; best 1 = 2; best 2 = 3; best 3 = 1");
        S.holds("17: asked again, with fewer LOADS",
            "load 0 9;".repeat(6) + "best -1 = 54; drop = 6; load 0 1; load 0 2; best -1 = 3; best 0 = 0; best 2 = NONE;"
            + "load 0 3; best -1 = 6");
        S.holds("17: one is left behind for more worth",
            "act A-2A0; load 10 5; load 10 3; load 5 4; best -1 = 9; best 0 = 0; best 1 = 1; best 2 = 2; best 3 = NONE");
    }

    private static void renewedRefused() {
        String some = "act A-3A0B-2 = 3;";
        S.holds("18: OUTSIDE: w (0 to 4)",
            some + "renewed -1 0 -1 = OUTSIDE; renewed 5 0 -1 = OUTSIDE; renewed MIN 0 -1 = OUTSIDE;"
            + "renewed MAX 0 -1 = OUTSIDE; renewed 0 0 -1 = 0; renewed 4 0 -1 = 0");
        S.holds("18: OUTSIDE: need (0 to 9999)",
            some + "renewed 1 -1 -1 = OUTSIDE; renewed 1 10000 -1 = OUTSIDE; renewed 1 MIN -1 = OUTSIDE;"
            + "renewed 1 MAX -1 = OUTSIDE; renewed 1 9999 -1 = NONE; renewed 1 0 -1 = 0");
        for (int w = 0; w < 5; w++) {
            S.holds("18: OUTSIDE: i -1 to w less 1, w " + w,
                some + ("renewed W 0 -2 = OUTSIDE; renewed W 0 W = OUTSIDE; renewed W 0 -1 = 0;"
                + "renewed W 0 MIN = OUTSIDE; renewed W 0 MAX = OUTSIDE;").replace("W", "" + w) + (w > 0 ? "renewed " + w + " 0 "
                + (w - 1) + " = NONE" : ""));
        }
        S.holds("18: OUTSIDE, also where it can not be",
            some + "renewed 2 9999 2 = OUTSIDE; renewed 2 9999 -2 = OUTSIDE; renewed 2 9999 1 = NONE;"
            + "renewed 5 9999 0 = OUTSIDE");
        S.holds("18: NONE: it can not be, for the inches and each WEEK",
            some + "renewed 2 9999 -1 = NONE; renewed 2 9999 0 = NONE; renewed 2 9999 1 = NONE");
    }

    private static void renewedNeed() {
        S.holds("18: 0 WEEKS: no need is asked", "renewed 0 9999 -1 = 0; renewed 0 0 -1 = 0; renewed 0 0 0 = OUTSIDE");
        S.holds("18: need 0, no ROPES", "renewed 4 0 -1 = 0; renewed 4 0 0 = NONE; renewed 4 0 3 = NONE");
        S.holds("18: an empty BASKET",
            "act A-3A0 = 2; renewed 1 10 -1 = 0; renewed 1 11 -1 = NONE; renewed 2 5 -1 = 0; renewed 2 6 -1 = NONE;"
            + "renewed 3 0 -1 = 0; renewed 3 1 -1 = NONE");
        S.holds("18: BEAR a need, just met",
            "act A-4B-9 = 2; renewed 1 15 -1 = 4; renewed 1 15 0 = 0; renewed 1 16 -1 = 9; renewed 1 40 -1 = 9;"
            + "renewed 1 40 0 = 10; renewed 1 41 -1 = NONE");
        S.holds("18: behind each WEEK, not ahead of it",
            "act A-4 = 1; bears = 0; renewed 1 15 -1 = 4; act A0 = 1; bears = 20; renewed 1 20 -1 = NONE; renewed 1 15 -1 = 0");
        S.holds("18: behind each WEEK, the first too",
            "act A-9 = 1; renewed 2 1 -1 = 9; renewed 2 1 0 = 0; renewed 2 1 1 = NONE; act B-9 = 1; renewed 2 41 -1 = NONE");
        S.holds("18: behind each WEEK, the last too",
            "act A-4A0B-9 = 3; renewed 4 15 -1 = 9; renewed 4 15 0 = NONE; renewed 4 15 1 = 10; renewed 4 15 2 = NONE;"
            + "renewed 4 15 3 = NONE");
        S.holds("18: at most one MONK's hair ahead of a WEEK",
            "act A-5B-5 = 2; renewed 1 20 -1 = 5; renewed 1 21 -1 = NONE; renewed 2 20 -1 = 10; renewed 2 20 0 = 0;"
            + "renewed 2 20 1 = 10");
        S.holds("18: all of it", "act A-9 = 1; renewed 1 1 -1 = 9; renewed 1 1 0 = 0");
        S.holds("18: once woven in it is not in THE BASKET",
            "wear 0; act A-3 = 1; renewed 2 15 -1 = 3; renewed 2 15 0 = 0; renewed 2 15 1 = NONE; renewed 2 16 -1 = NONE");
        S.holds("18: HAIR is not cut for it", "monk 0 0 40; renewed 1 1 -1 = NONE");
        S.holds("18: what is woven in wears in its WEEK",
            "wear 4; act A-4B-5 = 2; renewed 1 5 -1 = 5; renewed 1 5 0 = 10; renewed 1 6 -1 = NONE");
        S.holds("18: what is woven in wears when the older LOCKS are gone",
            "wear 5; act A-1A0B-1B0C-9 = 5; renewed 1 30 -1 = 9; renewed 1 30 0 = 20; renewed 1 31 -1 = NONE");
        S.holds("18: WEAR 9, all wears away", "wear 9; act A-9 = 1; renewed 1 0 -1 = 0; renewed 1 1 -1 = NONE");
        S.holds("18: WEAR 0, nothing wears away", "wear 0; act A-9A0 = 2; renewed 4 45 -1 = 0; renewed 4 46 -1 = NONE");
        S.holds("18: STRONG 0 does not help",
            "wear 0; act A-9B-1 = 2; monk 0 1 0; renewed 1 5 -1 = 1; renewed 1 5 0 = 10; renewed 1 6 -1 = NONE");
        S.holds("18: nothing is done in fact",
            "act A-4B-9 = 2; renewed 4 1 -1 = 9; renewed 2 16 1 = NONE; told 30 = 4; told 31 = 9; told 40 = 0; told 2 = 0;"
            + "led 0 1 = 0; led 1 1 = 0");
        S.holds("18: 99 inches of each",
            "wear 0; monk 0 0 33; act A-9A-9A-9A-6; monk 0 0 33; act A-9A-9A-9A-6; monk 0 0 33; act A-9A-9A-9A-6;"
            + "monk 0 1 9; renewed 1 891 -1 = 99; renewed 1 892 -1 = NONE; renewed 4 891 3 = NONE; renewed 4 891 0 = 0");
    }

    private static void renewedRopes() {
        S.holds("18: a ROPE that has room: not the one of 8 LOCKS",
            "wear 0;" + FULL_ROPE + "act B-2; renewed 1 41 -1 = NONE; renewed 1 40 -1 = 0");
        S.holds("18: a ROPE of 7 LOCKS has room",
            "wear 0; act " + "A-1A0".repeat(7) + "; act B-2; renewed 1 45 -1 = 2; renewed 1 45 0 = 10; renewed 1 46 -1 = NONE");
        S.holds("18: room that comes by a WEEK",
            FULL_ROPE + "act B-2; renewed 1 36 -1 = NONE; renewed 2 35 -1 = 2; renewed 2 35 0 = NONE; renewed 2 35 1 = 10;"
            + "renewed 2 36 -1 = NONE");
        S.holds("18: room is taken by what is woven in",
            "wear 0; act " + "A-1A0".repeat(7) + "; act B-2C-3; renewed 1 50 -1 = 3; renewed 1 50 0 = 20;"
            + "renewed 2 60 -1 = NONE; renewed 2 50 -1 = 3");
        S.holds("18: another ROPE, if the first has no room",
            "wear 0;" + FULL_ROPE + "act B-9; renewed 1 45 -1 = 9; renewed 1 45 0 = 11; renewed 1 80 -1 = 9;"
            + "renewed 1 81 -1 = NONE");
        S.holds("18: two of three MONKS' hair are just enough",
            "wear 4; act F-9F0A-1B-4C-9 = 5; renewed 2 70 -1 = 13; renewed 2 70 0 = 20; renewed 2 70 1 = 10;"
            + "renewed 2 71 -1 = NONE");
        S.holds("18: asked again, when another's hair is the most",
            "wear 0; act B-9 = 1; renewed 1 45 0 = 10; act B0A-9 = 2; renewed 1 90 -1 = 9; renewed 1 90 0 = 0; act A1F-9 = 2;"
            + "renewed 1 91 -1 = 9; renewed 1 91 0 = 52");
        S.holds("18: the last MONK in the last ROPE",
            "wear 0; act A-1A0A-1A1A-1A2F-1 = 7; renewed 1 20 -1 = 1; renewed 1 20 0 = 53; renewed 1 21 -1 = NONE");
    }

    private static void renewedFirstWay() {
        S.holds("18: nothing ahead of MONK 0",
            "act A-9A0B-1 = 3; renewed 2 5 0 = NONE; renewed 2 5 1 = NONE; renewed 2 5 -1 = 0");
        S.holds("18: ROPE 0 ahead of ROPE 1",
            "act A-5 = 1; renewed 1 20 0 = 0; act B-2B1 = 2; renewed 1 25 -1 = 5; renewed 1 25 0 = 1");
        S.holds("18: MONK 0 ahead of MONK 1", "act B-5A-5 = 2; renewed 1 20 0 = 0");
        S.holds("18: MONK 0 in ROPE 3 ahead of MONK 1 in ROPE 0",
            "wear 0; act C-5C3D-5D0A-1B-1 = 6; monk 1 1 9; monk 2 1 9; monk 3 1 3; renewed 1 46 -1 = 1; renewed 1 46 0 = 3;"
            + "monk 0 1 0; renewed 1 46 0 = 10");
        S.holds("18: WEEK by WEEK: as late as can be",
            "act A-3A0B-3 = 3; renewed 3 5 -1 = 3; renewed 3 5 0 = NONE; renewed 3 5 1 = NONE; renewed 3 5 2 = 10");
        S.holds("18: the fewest inches ahead of the first way", "act A-9B-8 = 2; renewed 1 30 -1 = 8; renewed 1 30 0 = 10");
        S.holds("18: the fewest inches, two locks fewer than one",
            "wear 0; act A-9B-2C-3 = 3; renewed 2 10 -1 = 2; renewed 2 10 0 = 10; renewed 2 15 -1 = 3; renewed 2 15 0 = 20;"
            + "renewed 2 45 -1 = 9; renewed 2 45 0 = 0");
        S.holds("18: of as few inches the first way, both weeks",
            "wear 0; act A-1B-1C-9C0 = 4; renewed 2 45 -1 = 0; renewed 1 50 -1 = 1; renewed 1 50 0 = 0; renewed 2 50 0 = 0;"
            + "renewed 2 50 1 = NONE");
        S.holds("18: four WEEKS, each with its lock",
            "wear 9; monk 0 0 10; monk 1 0 10; monk 2 0 10; monk 3 0 10; act A-9A-1B-9B-1C-9C-1D-9D-1 = 8;"
            + "renewed 4 5 -1 = 40; renewed 4 5 0 = 0; renewed 4 5 1 = 10; renewed 4 5 2 = 20; renewed 4 5 3 = 30;"
            + "renewed 4 6 0 = NONE");
    }

    /** ROPE 0 has 99 inches of STRONG 9 and loses 81 of its POWER each WEEK, which takes 99 inches of STRONG 1 each WEEK. */
    private static void renewedMostInches() {
        StringBuilder run = new StringBuilder("wear 9; monk 0 1 9;");
        for (char name = 'A'; name <= 'E'; name++) {
            run.append(("monk " + (name - 'A') + " 0 33; act X-9X-9X-9X-6 = 4;").repeat(3).replace('X', name));
            run.append(name == 'A' ? "act A0 = 1;" : "monk " + (name - 'A') + " 1 1;");
        }
        S.holds("18: as many inches as there can be, 4 times 99",
            run + "renewed 4 891 -1 = 396; renewed 4 891 0 = 10; renewed 4 891 1 = 20; renewed 4 891 2 = 30;"
            + "renewed 4 891 3 = 40;"
            + "renewed 3 891 -1 = 297; renewed 4 910 -1 = NONE");
    }

    private static void soonRefused() {
        S.holds("19: UNKNOWN: the ROPE",
            "soon 1 1 -1 1 = UNKNOWN; soon 1 1 4 1 = UNKNOWN; soon 1 1 MIN 1 = UNKNOWN; soon 1 1 MAX 1 = UNKNOWN;"
            + "soon 1 1 0 1 = 1; soon 1 1 3 1 = 1");
        S.holds("19: OUTSIDE: the set (1 to 63)",
            "soon 0 1 0 1 = OUTSIDE; soon 64 1 0 1 = OUTSIDE; soon -1 1 0 1 = OUTSIDE; soon MIN 1 0 1 = OUTSIDE;"
            + "soon MAX 1 0 1 = OUTSIDE; soon 1 1 0 1 = 1; soon 63 1 0 1 = 1");
        S.holds("19: OUTSIDE: d (1 to 9)",
            "soon 1 0 0 1 = OUTSIDE; soon 1 10 0 1 = OUTSIDE; soon 1 -1 0 1 = OUTSIDE; soon 1 MIN 0 1 = OUTSIDE;"
            + "soon 1 MAX 0 1 = OUTSIDE; soon 1 1 0 1 = 1; soon 1 9 0 1 = 1");
        S.holds("19: OUTSIDE: need (0 to 9999)",
            "soon 1 1 0 -1 = OUTSIDE; soon 1 1 0 10000 = OUTSIDE; soon 1 1 0 MIN = OUTSIDE; soon 1 1 0 MAX = OUTSIDE;"
            + "soon 1 1 0 0 = 0; soon 1 1 0 9999 = NONE");
        S.holds("19: UNKNOWN ahead of OUTSIDE",
            "soon 0 1 4 1 = UNKNOWN; soon 64 1 -1 1 = UNKNOWN; soon 1 0 4 1 = UNKNOWN; soon 1 10 -1 1 = UNKNOWN;"
            + "soon 1 1 4 -1 = UNKNOWN; soon 1 1 -1 10000 = UNKNOWN");
        S.holds("19: OUTSIDE, also where 0 WEEKS would do",
            "soon 0 1 0 0 = OUTSIDE; soon 1 0 0 0 = OUTSIDE; soon 1 10 0 0 = OUTSIDE; soon 64 1 0 0 = OUTSIDE");
    }

    private static void soonWeeks() {
        S.holds("19: 0 WEEKS, a need of 0", "soon 1 1 0 0 = 0; soon 63 9 3 0 = 0");
        S.holds("19: 0 WEEKS, the need is just borne now", "act A-9A0 = 2; soon 2 1 1 45 = 0; soon 2 1 0 46 = 1");
        S.holds("19: a WEEK, the need is just borne behind it",
            "soon 1 1 0 50 = 1; soon 1 2 0 55 = 1; soon 1 2 0 56 = 2; soon 1 9 0 90 = 1; soon 1 9 0 91 = 2");
        S.holds("19: 30 WEEKS, and not 31",
            "wear 8; monk 0 0 0; soon 1 9 2 5 = 1; soon 1 9 2 145 = 29; soon 1 9 2 146 = 30; soon 1 9 2 150 = 30;"
            + "soon 1 9 2 151 = NONE");
        S.holds("19: NONE: it wears as fast as they sin", "soon 1 1 0 50 = 1; soon 1 1 0 51 = NONE");
        S.holds("19: the fewest WEEKS, though the bridge bears less later", "wear 9; soon 1 1 0 10 = 1; soon 1 1 0 11 = NONE");
        S.holds("19: WEEKS 0 is ahead of what wears",
            "act A-9A0 = 2; wear 9; monk 1 0 0; soon 2 1 0 45 = 0; soon 2 1 0 46 = NONE");
        S.holds("19: nothing is done in fact",
            "act A-4B-9B0 = 3; soon 63 9 0 9999 = NONE; soon 7 3 1 60; told 10 = 6; told 11 = 1; told 30 = 4; told 40 = 1;"
            + "lock 0 0 1 = 9; told 2 = 0; led 1 1 = 0");
    }

    private static void soonBounds() {
        S.holds("19: sins d as far as 40",
            "wear 0; monk 0 0 31; soon 1 9 0 200 = 1; monk 0 0 39; soon 1 1 0 200 = 1; soon 1 9 0 200 = 1; soon 1 9 0 201 = 2;"
            + "monk 0 0 40; soon 1 9 0 200 = 1; soon 1 9 0 201 = 2");
        S.holds("19: all of the set pray all their HAIR",
            "wear 0; soon 63 1 0 330 = 1; soon 63 1 0 331 = 2; soon 33 1 0 110 = 1; soon 33 1 0 111 = 2; soon 33 1 0 120 = 2");
        S.holds("19: none but the set",
            "wear 0; monk 1 0 40; act C-9 = 1; soon 1 1 0 55 = 1; soon 1 1 0 56 = 2; soon 1 1 0 60 = 2; soon 1 1 0 61 = 3");
        S.holds("19: HAIR of 0 sins too", "wear 0; monk 5 0 0; soon 32 1 0 5 = 1; soon 32 1 0 40 = 8; soon 32 1 0 41 = NONE");
        String most = "monk 0 0 40; act A-9A-9A-9A-9A-4;";
        S.holds("19: THE BASKET takes 99 at most",
            "wear 0;" + most + "monk 0 0 18; act A-9A-9; told 30 = 58; monk 0 0 40; soon 1 1 0 490 = 1; soon 1 1 0 491 = 2");
        S.holds("19: what is more is lost",
            "wear 0;" + most + most + "monk 0 0 40; soon 1 1 0 495 = 1; soon 1 1 0 496 = 2; soon 1 1 0 500 = 2;"
            + "soon 1 1 0 501 = 3; soon 1 9 0 540 = 2; soon 1 9 0 541 = 3");
        S.holds("19: all the set's in THE BASKET, also what was there",
            "wear 0; act C-9 = 1; soon 4 1 0 55 = 1; soon 4 1 0 56 = 2");
        S.holds("19: into that ROPE",
            "wear 0; act B-1B1 = 2; soon 1 1 0 55 = 1; soon 1 1 0 56 = 2; soon 1 1 1 60 = 1; soon 1 1 1 61 = 2");
        S.holds("19: as far as it has room: none",
            "wear 0;" + FULL_ROPE + "soon 48 9 0 40 = 0; soon 48 9 0 41 = NONE; soon 48 9 1 152 = 1");
        S.holds("19: as far as it has room: one LOCK, by numbers",
            "wear 0; act " + "A-1A0".repeat(7) + "; monk 4 0 5; soon 48 1 0 65 = 1; soon 48 1 0 66 = NONE");
        S.holds("19: as far as it has room: room that comes by WEEKS",
            FULL_ROPE + "soon 2 1 0 41 = 2; soon 2 1 0 90 = 2; soon 2 1 0 91 = NONE");
        S.holds("19: by numbers: the higher one waits in THE BASKET",
            "act " + "A-1A0".repeat(7) + "; monk 4 0 5; monk 5 0 7; soon 48 1 0 60 = 1; soon 48 1 0 61 = NONE");
        S.holds("19: 8 LOCKS of one set", "wear 0; soon 63 1 2 330 = 1; soon 63 1 2 340 = 2; soon 63 1 2 341 = NONE");
        S.holds("19: STRONG as it is now",
            "wear 0; monk 0 1 9; soon 1 1 0 99 = 1; monk 0 1 0; soon 1 1 0 1 = NONE; soon 3 1 0 55 = 1");
    }
}
