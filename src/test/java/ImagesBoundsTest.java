/** Promises 25 to 27, sentence by sentence: first and last numbers, empty and full, refusals. */
public final class ImagesBoundsTest {
    private static final Sentences S = new Sentences();

    public static void main(String[] args) {
        image();
        restore();
        allIsKept();
        pad();
        told();
        toldFull();
        S.end();
    }

    private static void image() {
        S.holds("25: an IMAGE (0, 1)",
            "image 0 = 1; image 1 = 1; image -1 = OUTSIDE; image 2 = OUTSIDE; image MIN = OUTSIDE; image MAX = OUTSIDE");
        S.holds("25: a refused IMAGE keeps nothing",
            "image -1 = OUTSIDE; image 2 = OUTSIDE; restore 0 = STATE; restore 1 = STATE");
        S.holds("25: 1, of a new object", "image 0 = 1; monk 0 0 40; restore 0 = 1; told 10 = 10");
        S.holds("25: kept anew, it is the newer one",
            "image 0 = 1; monk 0 0 20; image 0 = 1; monk 0 0 30; restore 0 = 1; told 10 = 20");
        S.holds("25: kept again, it is 1 again", "image 1 = 1; image 1 = 1; restore 0 = STATE");
        S.holds("25: nothing else changes",
            "act A-3A0.B-1; load 1 1; weighed 1 0; text A+; image 0 = 1; told 0 = 2; told 2 = 1; told 3 = 1; told 4 = 1;"
            + "told 40 = 1; told 31 = 1");
        S.holds("25: what comes later is not in it",
            "act A-5A0 = 2; image 0 = 1; act B-3B0C-4C1.. = 6; restore 0 = 1; told 40 = 1; told 41 = 0; lock 0 0 1 = 5;"
            + "told 2 = 0; told 11 = 10");
    }

    private static void restore() {
        S.holds("26: OUTSIDE: an IMAGE (0, 1)",
            "image 0; image 1; restore -1 = OUTSIDE; restore 2 = OUTSIDE; restore MIN = OUTSIDE; restore MAX = OUTSIDE;"
            + "restore 0 = 1; restore 1 = 1");
        S.holds("26: OUTSIDE ahead of STATE", "restore -1 = OUTSIDE; restore 2 = OUTSIDE; restore 0 = STATE");
        S.holds("26: STATE: 0 was not kept",
            "image 1; monk 0 0 7; restore 0 = STATE; told 10 = 7; restore 1 = 1; restore 0 = STATE");
        S.holds("26: STATE: 1 was not kept",
            "image 0; monk 0 0 7; restore 1 = STATE; told 10 = 7; restore 0 = 1; restore 1 = STATE");
        S.holds("26: STATE changes nothing",
            "act A-3A0.B-1; load 1 1; weighed 1 0; text A+; restore 0 = STATE; restore 1 = STATE; told 0 = 2; told 2 = 1;"
            + "told 3 = 1; told 4 = 1");
        S.holds("26: it may come back twice",
            "image 0; monk 0 0 7; restore 0 = 1; told 10 = 10; monk 0 0 8; restore 0 = 1; told 10 = 10; restore 0 = 1");
        S.holds("26: two IMAGES, each its own",
            "monk 0 0 1; image 0; monk 0 0 2; image 1; monk 0 0 3; restore 0 = 1; told 10 = 1; restore 1 = 1; told 10 = 2;"
            + "restore 0 = 1; told 10 = 1");
        S.holds("26: an IMAGE that is kept later stays",
            "image 0; monk 0 0 2; image 1; restore 0 = 1; told 10 = 10; restore 1 = 1; told 10 = 2");
        S.holds("26: what is done behind it does not change the IMAGE",
            "act A-9A0 = 2; image 0; act . = 1; restore 0 = 1; act .B-1B0 = 3; load 5 5; weighed 1 1;"
            + "restore 0 = 1; lock 0 0 1 = 9; told 40 = 1; told 3 = 0; told 4 = 0; told 2 = 0");
    }

    /** Each thing that an IMAGE keeps, changed and brought back. */
    private static void allIsKept() {
        S.holds("26: HAIR", "monk 5 0 33; image 0; monk 5 0 1; restore 0 = 1; told 15 = 33");
        S.holds("26: STRONG", "monk 5 1 8; image 0; monk 5 1 1; restore 0 = 1; told 25 = 8");
        S.holds("26: THE BASKET", "act F-4 = 1; image 0; act F3 = 1; told 35 = 0; restore 0 = 1; told 35 = 4; told 43 = 0");
        S.holds("26: WEAR", "wear 7; image 0; wear 2; restore 0 = 1; told 1 = 7");
        S.holds("26: WEEKS", "act ... = 3; image 0; act .. = 2; told 2 = 5; restore 0 = 1; told 2 = 3");
        S.holds("26: LOCKS of each ROPE", "act A-1A0B-2B1C-3C2D-4D3 = 8; image 0; wear 9; act . = 1; told 43 = 0; restore 0 = 1;"
            + "lock 0 0 0 = 0; lock 1 0 0 = 1; lock 2 0 0 = 2; lock 3 0 0 = 3; lock 0 0 1 = 1; lock 1 0 1 = 2; lock 2 0 1 = 3;"
            + "lock 3 0 1 = 4");
        S.holds("26: eight LOCKS",
            "act " + "A-1A0".repeat(7) + "; act B-3B0; image 1; wear 8; act .; told 40 = 1; restore 1 = 1; told 40 = 8;"
            + "lock 0 7 0 = 1; lock 0 7 1 = 3; lock 0 0 0 = 0");
        S.holds("26: DATED",
            "act A-5A0.. = 4; image 0; act .. = 2; lock 0 0 2 = 4; restore 0 = 1; lock 0 0 2 = 2; act . = 1; lock 0 0 2 = 3");
        S.holds("26: WORN", "act A-5A0.. = 4; image 0; act .. = 2; led 0 1 = 4; restore 0 = 1; led 0 1 = 2; led 0 0 = 3");
        S.holds("26: LOADS",
            "load 0 5; load 0 6; image 0; drop = 2; load 0 1; restore 0 = 1; told 3 = 2; best -1 = 11; load 0 7 = 3;"
            + "best -1 = 18");
        S.holds("26: no LOADS", "image 0; load 0 5; restore 0 = 1; told 3 = 0; best -1 = 0; load 0 7 = 1; best -1 = 7");
        S.holds("26: six LOADS",
            "load 0 1;".repeat(6) + "image 0; drop = 6; restore 0 = 1; told 3 = 6; load 0 1 = FULL; best -1 = 6");
        S.holds("26: WEIGHINGS",
            "weighed 1 10; weighed 2 0; image 0; forget = 2; weighed 1 0; restore 0 = 1; told 4 = 2; canBe -1 = 16; sure 0 = 2;"
            + "sure 1 = 1");
        S.holds("26: no WEIGHINGS", "image 0; weighed 1 10; restore 0 = 1; told 4 = 0; canBe -1 = 64; weighed 1 0 = 1");
        S.holds("26: six WEIGHINGS",
            "weighed 1 10;".repeat(6) + "image 0; forget = 6; restore 0 = 1; told 4 = 6; weighed 1 10 = FULL; sure 1 = 1");
    }

    private static void pad() {
        S.holds("25: all but the PAD: signs of now stay", "text A+1; image 0; text B+; restore 0 = 1; told 0 = 5; fault = 5");
        S.holds("25: all but the PAD: signs of then do not come back",
            "text A+1; image 0; wipe = 3; restore 0 = 1; told 0 = 0; done = 0; told 10 = 10");
        S.holds("25: all but the PAD: other signs stay",
            "text A+1; image 0; wipe = 3; text B+2; restore 0 = 1; done = 1; told 10 = 10; told 11 = 12");
        S.holds("25: all but the PAD: a full PAD stays",
            "image 0; text " + ".".repeat(60) + "; restore 0 = 1; told 0 = 60; say 46 = FULL; done = 60; told 2 = 60");
    }

    private static void told() {
        S.holds("27: 0 signs", "text A+; told 0 = 2");
        S.holds("27: 1 WEAR", "wear 6; told 1 = 6");
        S.holds("27: 2 WEEKS", "act .... = 4; told 2 = 4");
        S.holds("27: 3 LOADS", "load 1 1; load 2 2; weighed 1 1; told 3 = 2");
        S.holds("27: 4 WEIGHINGS", "load 1 1; weighed 2 2; weighed 1 1; told 4 = 2");
        S.holds("27: 10 to 15 HAIR", "monk 0 0 20; monk 1 0 21; monk 2 0 22; monk 3 0 23; monk 4 0 24; monk 5 0 25;"
            + "told 10 = 20; told 11 = 21; told 12 = 22; told 13 = 23; told 14 = 24; told 15 = 25");
        S.holds("27: 20 to 25 STRONG", "monk 0 1 0; monk 1 1 1; monk 2 1 2; monk 3 1 3; monk 4 1 4; monk 5 1 9;"
            + "told 20 = 0; told 21 = 1; told 22 = 2; told 23 = 3; told 24 = 4; told 25 = 9");
        S.holds("27: 30 to 35 THE BASKET",
            "act A-1B-2C-3D-4E-5F-6 = 6; told 30 = 1; told 31 = 2; told 32 = 3; told 33 = 4; told 34 = 5; told 35 = 6");
        S.holds("27: 40 to 43 LOCKS of ROPES",
            "act A-1A0A-1A1A-1A1A-1A2A-1A2A-1A2 = 12; told 40 = 1; told 41 = 2; told 42 = 3; told 43 = 0");
        int[] outside = {-1, 5, 6, 9, 16, 17, 19, 26, 29, 36, 39, 44, 45, 46, 49, 50, 60, 100, -10, Integer.MIN_VALUE, Integer.MAX_VALUE};
        for (int what : outside) {
            S.holds("27: OUTSIDE: " + what, "load 1 1; weighed 1 1; told " + what + " = OUTSIDE");
        }
    }

    private static void toldFull() {
        S.holds("27: as much as there can be", "text " + ".".repeat(60) + ";" + "load 0 0;".repeat(6) + "weighed 1 1;".repeat(6)
            + "wear 9; monk 0 0 40; monk 0 1 9; told 0 = 60; told 1 = 9; told 3 = 6; told 4 = 6; told 10 = 40; told 20 = 9");
        S.holds("27: as little as there can be",
            "wear 0; monk 5 0 0; monk 5 1 0; told 0 = 0; told 1 = 0; told 2 = 0; told 3 = 0; told 4 = 0; told 15 = 0;"
            + "told 25 = 0; told 35 = 0; told 43 = 0");
    }
}
