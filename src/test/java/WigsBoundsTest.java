/** Promises 20 to 24, sentence by sentence: first and last numbers, empty and full, refusals. */
public final class WigsBoundsTest {
    private static final Sentences S = new Sentences();
    private static final String SIX = "weighed 1 10 = 1; weighed 2 10 = 2; weighed 4 0 = 3; weighed 8 10 = 4;"
        + "weighed 16 10 = 5; weighed 32 0 = 6;";
    /** HAIR of 1, 2, 4, 8, 16, 32: each set of MONKS weighs otherwise. */
    private static final String POWERS_OF_TWO = "monk 0 0 1; monk 1 0 2; monk 2 0 4; monk 3 0 8; monk 4 0 16; monk 5 0 32;";
    private static final String NONE_CAN_BE = "weighed 1 10 = 1; weighed 1 0 = 2;";
    /** A alone has strength: what the others do in a year is not seen. */
    private static final String A_ALONE = "monk 1 1 0; monk 2 1 0; monk 3 1 0; monk 4 1 0; monk 5 1 0; wear 0;";

    public static void main(String[] args) {
        weighed();
        forget();
        canBe();
        canBeFits();
        sure();
        sureRefused();
        ask();
        yearRefused();
        year();
        yearIfHeCan();
        S.end();
    }

    private static void weighed() {
        S.holds("20: OUTSIDE: the set (1 to 63)", """
            weighed 1 0 = 1; weighed 63 0 = 2; weighed 0 0 = OUTSIDE; weighed 64 0 = OUTSIDE; weighed -1 0 = OUTSIDE
            weighed MIN 0 = OUTSIDE; weighed MAX 0 = OUTSIDE; told 4 = 2""");
        S.holds("20: OUTSIDE: 0 to 240", """
            weighed 1 0 = 1; weighed 1 240 = 2; weighed 1 -1 = OUTSIDE; weighed 1 241 = OUTSIDE
            weighed 1 MIN = OUTSIDE; weighed 1 MAX = OUTSIDE; told 4 = 2""");
        S.holds("20: WEIGHINGS, 6 at most; FULL",
            SIX + "weighed 1 10 = FULL; told 4 = 6; canBe -1 = 1; weighed 63 0 = FULL; canBe -1 = 1; canBe 0 = 36");
        S.holds("20: the sixth counts", SIX + "sure 0 = 36; sure 1 = 27");
        S.holds("20: OUTSIDE ahead of FULL",
            SIX + "weighed 0 0 = OUTSIDE; weighed 64 0 = OUTSIDE; weighed 1 -1 = OUTSIDE; weighed 1 241 = OUTSIDE;"
            + "weighed 1 240 = FULL");
        S.holds("20: a refused WEIGHING is none",
            "weighed 1 241 = OUTSIDE; told 4 = 0; canBe -1 = 64; weighed 1 0 = 1; canBe -1 = 32");
        S.holds("20: the same WEIGHING twice is two", "weighed 3 20 = 1; weighed 3 20 = 2; canBe -1 = 16");
        S.holds("20: one that can not fit is taken, too", "weighed 1 11 = 1; canBe -1 = 0; told 4 = 1");
    }

    private static void forget() {
        S.holds("21: WEIGHINGS go, none there", "forget = 0; told 4 = 0; canBe -1 = 64");
        S.holds("21: WEIGHINGS go, one", "weighed 1 0; canBe -1 = 32; forget = 1; told 4 = 0; canBe -1 = 64; forget = 0");
        S.holds("21: WEIGHINGS go, six, and there is room again",
            SIX + "forget = 6; told 4 = 0; canBe -1 = 64; weighed 1 10 = 1; canBe -1 = 32; sure 1 = 1");
        S.holds("21: LOADS stay", "load 1 1; weighed 1 0; forget = 1; told 3 = 1");
    }

    private static void canBe() {
        S.holds("22: how many (i = -1), the i-th, without WEIGHINGS",
            "canBe -1 = 64; canBe 0 = 0; canBe 1 = 1; canBe 62 = 62; canBe 63 = 63; canBe 64 = NONE");
        S.holds("22: NONE (i below -1, too)", "canBe -2 = NONE; canBe MIN = NONE; canBe MAX = NONE; canBe -1 = 64");
        S.holds("22: the first and the last of 20",
            "weighed 63 30; canBe -1 = 20; canBe 0 = 7; canBe 1 = 11; canBe 19 = 56; canBe 20 = NONE; canBe -2 = NONE");
        S.holds("22: one", POWERS_OF_TWO + "weighed 63 63; canBe -1 = 1; canBe 0 = 0; canBe 1 = NONE");
        S.holds("22: all wear one", POWERS_OF_TWO + "weighed 63 0; canBe -1 = 1; canBe 0 = 63; canBe 1 = NONE");
        S.holds("22: none CAN BE", NONE_CAN_BE + "canBe -1 = 0; canBe 0 = NONE; canBe -2 = NONE; canBe 63 = NONE");
    }

    private static void canBeFits() {
        S.holds("22: HAIR of those of the set who wear none", POWERS_OF_TWO + "weighed 63 21; canBe -1 = 1; canBe 0 = 42");
        S.holds("22: of the set alone", POWERS_OF_TWO + "weighed 7 5; canBe -1 = 8; canBe 0 = 2; canBe 7 = 58");
        S.holds("22: that fit all", POWERS_OF_TWO + "weighed 7 5; weighed 24 24; weighed 32 0; canBe -1 = 1; canBe 0 = 34");
        S.holds("22: the least and the greatest WEIGHT",
            "monk 0 0 40; monk 1 0 40; monk 2 0 40; monk 3 0 40; monk 4 0 40; monk 5 0 40;"
            + "weighed 63 240; canBe -1 = 1; canBe 0 = 0; forget = 1; weighed 63 239; canBe -1 = 0; forget = 1; weighed 63 0;"
            + "canBe -1 = 1; canBe 0 = 63");
        S.holds("22: HAIR of 0 WEIGHS nothing, with a WIG or without",
            "monk 0 0 0; weighed 1 0; canBe -1 = 64; weighed 3 10; canBe -1 = 32; canBe 0 = 0; canBe 1 = 1; canBe 2 = 4");
        S.holds("22: HAIR as it is now",
            "weighed 1 10; canBe -1 = 32; monk 0 0 11; canBe -1 = 0; monk 0 0 10; canBe -1 = 32; act A-1 = 1; canBe -1 = 0");
        S.holds("22: nothing changes by it", "weighed 63 30; canBe -1 = 20; canBe 3; canBe -1 = 20; told 4 = 1; forget = 1");
    }

    private static void sure() {
        S.holds("23: without WEIGHINGS none is sure", "sure 0 = 0; sure 1 = 0");
        S.holds("23: who has one in each (0), in none (1)", "weighed 3 0; weighed 12 20; sure 0 = 3; sure 1 = 12");
        S.holds("23: all have one", POWERS_OF_TWO + "weighed 63 0; sure 0 = 63; sure 1 = 0");
        S.holds("23: none has one", POWERS_OF_TWO + "weighed 63 63; sure 0 = 0; sure 1 = 63");
        S.holds("23: in some of them",
            "weighed 3 10; sure 0 = 0; sure 1 = 0; canBe -1 = 32; weighed 5 20; sure 0 = 2; sure 1 = 5");
        S.holds("23: HAIR of 0 is never sure", "monk 5 0 0; weighed 63 50; sure 0 = 0; sure 1 = 31");
    }

    private static void sureRefused() {
        S.holds("23: OUTSIDE: what is 0 to 2",
            "sure -1 = OUTSIDE; sure 3 = OUTSIDE; sure MIN = OUTSIDE; sure MAX = OUTSIDE; sure 0 = 0; sure 2 = 31");
        S.holds("23: NO: none CAN BE", NONE_CAN_BE + "sure 0 = NO; sure 1 = NO; sure 2 = NO; told 4 = 2; forget = 2; sure 0 = 0");
        S.holds("23: OUTSIDE ahead of NO", NONE_CAN_BE + "sure -1 = OUTSIDE; sure 3 = OUTSIDE; sure 2 = NO");
    }

    private static void ask() {
        S.holds("23: ASK, all alike: the most that WEIGH alike are fewest", "sure 2 = 31");
        S.holds("23: ASK, the set 63", POWERS_OF_TWO + "sure 2 = 63");
        S.holds("23: ASK, the set 1: nothing is left to part", POWERS_OF_TWO + "weighed 63 21; canBe -1 = 1; sure 2 = 1");
        S.holds("23: ASK, no set parts them",
            "monk 0 0 0; monk 1 0 0; monk 2 0 0; monk 3 0 0; monk 4 0 0; monk 5 0 0; canBe -1 = 64; sure 2 = 1");
        S.holds("23: ASK, the last MONK alone", POWERS_OF_TWO + "weighed 31 31; canBe -1 = 2; sure 2 = 32");
        S.holds("23: ASK, the least of those that part alike", POWERS_OF_TWO + "weighed 60 60; canBe -1 = 4; sure 2 = 3");
        S.holds("23: ASK, the most, not how many parts",
            "monk 0 0 1; monk 1 0 2; monk 2 0 3; weighed 56 30; canBe -1 = 8; sure 2 = 3; monk 2 0 4; sure 2 = 7");
        S.holds("23: ASK, three that all weigh otherwise",
            "monk 0 0 6; monk 1 0 2; monk 2 0 2; monk 3 0 1; monk 4 0 9; monk 5 0 1;"
            + "weighed 63 2; canBe -1 = 3; canBe 0 = 23; canBe 1 = 59; canBe 2 = 61; sure 2 = 10");
        S.holds("23: ASK, the greatest HAIR",
            "monk 0 0 40; monk 1 0 40; monk 2 0 40; monk 3 0 40; monk 4 0 40; monk 5 0 40; sure 2 = 31; weighed 63 200;"
            + "sure 2 = 7");
        S.holds("23: ASK asked again answers the same",
            "sure 2 = 31; sure 2 = 31; monk 0 0 0; sure 2; monk 0 0 10; sure 2 = 31; canBe -1 = 64");
    }

    private static void yearRefused() {
        S.holds("24: OUTSIDE: a seed (0 to 9999)",
            "year -1 1 0 = OUTSIDE; year 10000 1 0 = OUTSIDE; year MIN 1 0 = OUTSIDE; year MAX 1 0 = OUTSIDE; year 0 1 0 = 0;"
            + "year 9999 1 0 = 0");
        S.holds("24: OUTSIDE: w WEEKS (1 to 60)",
            "year 0 0 0 = OUTSIDE; year 0 61 0 = OUTSIDE; year 0 -1 1 = OUTSIDE; year 0 MIN 1 = OUTSIDE;"
            + "year 0 MAX 0 = OUTSIDE; year 0 1 0 = 0; year 9999 60 0 = 25");
        S.holds("24: OUTSIDE: what is 0 or 1",
            "year 0 1 -1 = OUTSIDE; year 0 1 2 = OUTSIDE; year 0 1 MIN = OUTSIDE; year 0 1 MAX = OUTSIDE; year 0 1 1 = 0");
    }

    private static void year() {
        // by seed 0: 74, 5624, 28652 (left over by 3: 2), 51790, 17641, 12409 (1), 13231 (1), 9344 (2)
        S.holds("24: the WEEK goes by behind the deeds", "act A-9 = 1; year 0 1 0 = 40; wear 9; year 0 1 0 = 0");
        S.holds("24: the ROPE is x left over by 4",
            "wear 0; act B-9B0A-9 = 3; year 0 1 0 = 90; act C-9 = 1; year 0 1 0 = 90; act A2B-1 = 2; year 0 1 0 = 95");
        S.holds("24: MONKS by numbers, one draw each", "wear 0; act F-9 = 1; year 0 1 0 = 0; act C-9 = 1; year 0 1 0 = 45");
        S.holds("24: the draws go on in the next WEEK",
            "wear 0; act B-3 = 1; year 0 1 0 = 15; year 0 2 0 = 15; act B3B-3 = 2; year 0 2 0 = 30");
        S.holds("24: what it BORE at least behind a WEEK, not ahead of it",
            "bears = 0; act A-9 = 1; year 0 1 1 = 40; year 0 2 1 = 35; year 0 2 0 = 35");
        S.holds("24: BORE at least, the last WEEK",
            A_ALONE + "wear 1; act A-9A0 = 2; year 0 1 1 = 40; year 0 2 1 = 35; year 0 2 0 = 35");
        S.holds("24: BORE at least, an earlier WEEK", A_ALONE + "year 1750 2 0 = 5; year 1750 2 1 = 0");
        S.holds("24: one WEEK, 60 WEEKS",
            "year 5 1 0 = 0; year 5 20 0 = 30; year 5 20 1 = 0; year 9999 60 0 = 25; year 9999 60 1 = 0");
        S.holds("24: STRONG as it is now", "wear 0; act A-9 = 1; monk 0 1 9; year 0 1 0 = 81; monk 0 1 0; year 0 1 0 = 0");
        S.holds("24: nothing is done in fact",
            "act A-9B-1B0 = 3; year 0 60 0; year 9999 60 1; told 2 = 0; told 10 = 1; told 30 = 9; told 40 = 1; lock 0 0 1 = 1;"
            + "led 1 1 = 0");
        S.holds("24: the same seed, the same YEAR", "year 5 20 0 = 30; year 6 20 0; year 5 20 0 = 30");
    }

    /**
     * A's draws: by seed 1750 he prays, then weaves in; 876: sins, prays, weaves in; 891: sins, prays,
     * prays, weaves in; 0: weaves in; 2302: prays, weaves in, prays, weaves in.
     */
    private static void yearIfHeCan() {
        S.holds("24: 0: he sins 1", A_ALONE + "monk 0 0 0; year 876 2 0 = 0; year 876 3 0 = 5");
        S.holds("24: 1: he prays 1", A_ALONE + "monk 0 0 1; year 1750 1 0 = 0; year 1750 2 0 = 5");
        S.holds("24: he prays 1, if he can: HAIR 0", A_ALONE + "monk 0 0 0; year 1750 2 0 = 0");
        S.holds("24: he prays 1, if he can: once of two",
            A_ALONE + "monk 0 0 0; year 891 4 0 = 5; monk 0 0 1; year 891 4 0 = 10; monk 0 0 2; year 891 4 0 = 10");
        S.holds("24: he sins 1, if he can: HAIR 40", A_ALONE + "monk 0 0 40; year 876 3 0 = 5; year 891 4 0 = 10; told 10 = 40");
        String basket = "monk 0 0 33; act A-9A-9A-9A-6;";
        S.holds("24: he prays 1, if he can: THE BASKET has 99",
            A_ALONE + basket + basket + basket + "told 30 = 99; monk 0 0 40; year 1750 2 0 = 495");
        S.holds("24: he prays 1, if he can: THE BASKET has 98",
            A_ALONE + basket + basket + basket.replace("A-6", "A-5") + "told 30 = 98; monk 0 0 40; year 1750 2 0 = 495");
        S.holds("24: he prays 1, if he can: his HAIR stays, if not",
            A_ALONE + basket + basket + basket + "monk 0 0 1; year 2302 2 0 = 495; year 2302 4 0 = 500");
        S.holds("24: 2: what THE BASKET has goes to the ROPE, if it can: 7 LOCKS",
            A_ALONE + "act " + "A-1A2".repeat(7) + "; act A-2; year 0 1 0 = 45");
        S.holds("24: 2: what THE BASKET has goes to the ROPE, if it can: 8 LOCKS",
            A_ALONE + "act " + "A-1A2".repeat(8) + "; act A-2; year 0 1 0 = 40");
        S.holds("24: 2: what THE BASKET has goes to the ROPE, if it can: it has none",
            A_ALONE + "act A-3A1 = 2; year 0 1 0 = 15; year 0 1 1 = 15");
    }
}
