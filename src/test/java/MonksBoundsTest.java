/** Promises 1 to 9, sentence by sentence: first and last numbers, empty and full, refusals. */
public final class MonksBoundsTest {
    private static final Sentences S = new Sentences();
    /** Three times 33 inches of C to the basket: as full as it can be. */
    private static final String BASKET_OF_99 =
        "monk 2 0 33; act C-9C-9C-9C-6 = 4;".repeat(3) + "told 32 = 99; told 12 = 0;";

    public static void main(String[] args) {
        atFirst();
        monk();
        wear();
        say();
        wipe();
        faultOfEachSign();
        fault();
        judgeHair();
        judgeBasketAndRopes();
        judge();
        done();
        doneRefused();
        locks();
        weeks();
        weekBounds();
        lock();
        S.end();
    }

    private static void atFirst() {
        S.holds("1: No LOCKS", """
            told 40 = 0; told 41 = 0; told 42 = 0; told 43 = 0
            lock 0 0 0 = UNKNOWN; lock 1 0 1 = UNKNOWN; lock 2 0 2 = UNKNOWN; lock 3 0 0 = UNKNOWN""");
        S.holds("1: MONKS 0 to 5, HAIR 10 at first",
            "told 10 = 10; told 11 = 10; told 12 = 10; told 13 = 10; told 14 = 10; told 15 = 10");
        S.holds("1: STRONG 5 at first", "told 20 = 5; told 21 = 5; told 22 = 5; told 23 = 5; told 24 = 5; told 25 = 5");
        S.holds("1: THE BASKET has none at first",
            "told 30 = 0; told 31 = 0; told 32 = 0; told 33 = 0; told 34 = 0; told 35 = 0; text A0B0; judge 1 = 3");
        S.holds("1: WEAR 1 at first", "told 1 = 1; wear 0 = 1");
        S.holds("1: WEEKS are counted, 0 at first", "told 2 = 0; act . = 1; told 2 = 1");
        S.holds("1: the PAD is empty at first", "told 0 = 0; fault = NONE; judge 0 = NONE; wipe = 0");
        S.holds("1: no LOADS at first", "told 3 = 0; best -1 = 0; best 0 = NONE; drop = 0");
        S.holds("1: no WEIGHINGS at first", "told 4 = 0; canBe -1 = 64; forget = 0");
        S.holds("1: no IMAGES at first", "restore 0 = STATE; restore 1 = STATE");
        S.holds("1: nothing is LED or WORN at first",
            "led 0 0 = 0; led 0 1 = 0; led 5 0 = 0; led 5 1 = 0; act .. = 2; led 0 1 = 0; led 5 1 = 0");
        S.holds("1: no POWER at first", "power 0 = 0; power 3 = 0; bears = 0; broken 99999 = 0; share 0 0 = GONE+STATE");
        new Bridge().monk(0, 0, 40);
        S.holds("1: a new object has nothing of another one", "told 10 = 10; monk 0 0 40 = 10");
        S.holds("1: an object answers as far as its 512th call", "told 10 = 10;".repeat(510) + "monk 0 0 9 = 10; monk 0 0 8 = 9");
    }

    private static void monk() {
        for (int m = 0; m < 6; m++) {
            S.holds("2: HAIR of MONK " + m + " (0 to 40)", """
                monk M 0 40 = 10; monk M 0 41 = OUTSIDE; told 1M = 40
                monk M 0 0 = 40; monk M 0 -1 = OUTSIDE; told 1M = 0; monk M 0 1 = 0
                """.replace("M", "" + m));
            S.holds("2: STRONG of MONK " + m + " (0 to 9)", """
                monk M 1 9 = 5; monk M 1 10 = OUTSIDE; told 2M = 9
                monk M 1 0 = 9; monk M 1 -1 = OUTSIDE; told 2M = 0; monk M 1 1 = 0
                """.replace("M", "" + m));
        }
        S.holds("2: which it was, if it is the same", "monk 3 0 10 = 10; monk 3 0 10 = 10; monk 3 1 5 = 5; monk 3 1 5 = 5");
        S.holds("2: UNKNOWN: there is no such MONK", """
            monk -1 0 1 = UNKNOWN; monk 6 0 1 = UNKNOWN; monk -1 1 1 = UNKNOWN; monk 6 1 1 = UNKNOWN
            monk MIN 0 1 = UNKNOWN; monk MAX 1 1 = UNKNOWN; monk 5 0 1 = 10; monk 0 1 1 = 5""");
        S.holds("2: OUTSIDE: what is 0 or 1", """
            monk 0 -1 1 = OUTSIDE; monk 0 2 1 = OUTSIDE; monk 5 MIN 1 = OUTSIDE; monk 5 MAX 1 = OUTSIDE""");
        S.holds("2: OUTSIDE, far beyond", """
            monk 0 0 MIN = OUTSIDE; monk 0 0 MAX = OUTSIDE; monk 0 1 MIN = OUTSIDE; monk 0 1 MAX = OUTSIDE
            monk 0 0 65546 = OUTSIDE; monk 0 1 256 = OUTSIDE""");
        S.holds("2: UNKNOWN ahead of OUTSIDE", """
            monk 6 2 1 = UNKNOWN; monk 6 0 41 = UNKNOWN; monk 6 1 10 = UNKNOWN; monk -1 -1 -1 = UNKNOWN""");
        S.holds("2: HAIR alone changes, of that MONK alone", """
            monk 2 0 17 = 10; told 12 = 17; told 11 = 10; told 13 = 10; told 22 = 5; told 32 = 0""");
        S.holds("2: STRONG alone changes, of that MONK alone", """
            monk 2 1 8 = 5; told 22 = 8; told 21 = 5; told 23 = 5; told 12 = 10; told 32 = 0""");
    }

    private static void wear() {
        S.holds("3: WEAR (0 to 9), the greatest", "wear 9 = 1; wear 10 = OUTSIDE; told 1 = 9; wear 9 = 9");
        S.holds("3: WEAR (0 to 9), the least", "wear 0 = 1; wear -1 = OUTSIDE; told 1 = 0; wear 0 = 0");
        S.holds("3: OUTSIDE, far beyond", "wear MIN = OUTSIDE; wear MAX = OUTSIDE; wear 257 = OUTSIDE; wear 5 = 1");
        S.holds("3: WEAR as it is when the WEEK goes by",
            "act A-9A0 = 2; wear 3; act . = 1; lock 0 0 1 = 6; wear 2; act . = 1; lock 0 0 1 = 4");
    }

    private static void say() {
        S.holds("4: signs (codes 33 to 126)", """
            say 33 = 1; say 126 = 2; say 32 = OUTSIDE; say 127 = OUTSIDE; told 0 = 2""");
        S.holds("4: OUTSIDE, far beyond", """
            say 0 = OUTSIDE; say -1 = OUTSIDE; say MIN = OUTSIDE; say MAX = OUTSIDE
            say 321 = OUTSIDE; say 65601 = OUTSIDE; say -65471 = OUTSIDE; told 0 = 0""");
        S.holds("4: up to 60 signs; FULL", "text " + ".".repeat(59) + "; say 46 = 60; say 46 = FULL; told 0 = 60; say 65 = FULL");
        S.holds("4: OUTSIDE ahead of FULL", "text " + "A".repeat(60) + "; say 32 = OUTSIDE; say 127 = OUTSIDE; say 33 = FULL");
        S.holds("4: from 1 again behind wipe", "text " + ".".repeat(60) + "; wipe = 60; say 46 = 1");
        S.holds("4: from 1 again behind done", "text " + ".".repeat(60) + "; done = 60; say 46 = 1");
        S.holds("4: nothing is done yet", "text A+5B-3B0.; told 10 = 10; told 11 = 10; told 31 = 0; told 40 = 0; told 2 = 0");
    }

    private static void wipe() {
        S.holds("5: signs go, none there", "wipe = 0; wipe = 0");
        S.holds("5: signs go, one", "text A; wipe = 1; told 0 = 0; fault = NONE; wipe = 0");
        S.holds("5: signs go, 60", "text " + ".".repeat(60) + "; wipe = 60; told 0 = 0; done = 0; told 2 = 0");
        S.holds("5: what they say is not done",
            "text A+9B-1.; wipe = 7; told 10 = 10; told 11 = 10; told 31 = 0; told 2 = 0; done = 0");
        S.holds("5: a new text stands for itself",
            "text A+; wipe = 2; text B0; fault = NONE; judge 0 = 0; wipe = 2; text A; fault = 1");
    }

    /** Each sign at each kind of place: it can stand there, and then the text ends or more must come, or it can not. */
    private static void faultOfEachSign() {
        String[] ahead = {"", ".", "A0", "F+9", "C-1", "A", "F", "B+", "E-"};
        String[] ends = {".", ".", ".", ".", ".", "0123", "0123", "123456789", "123456789"};
        String[] goesOn = {"ABCDEF", "ABCDEF", "ABCDEF", "ABCDEF", "ABCDEF", "+-", "+-", "", ""};
        for (int place = 0; place < ahead.length; place++) {
            int signs = ahead[place].length();
            for (char sign = 33; sign <= 126; sign++) {
                int due = ends[place].indexOf(sign) >= 0 ? HairBridge.NONE : goesOn[place].indexOf(sign) >= 0 ? signs + 1 : signs;
                String text = signs == 0 ? "" : "text " + ahead[place] + ";";
                S.holds("6: sign " + sign + " behind '" + ahead[place] + "'", text + "say " + (int) sign + "; fault = " + due);
            }
        }
    }

    private static void fault() {
        S.holds("6: without signs there is none", "fault = NONE");
        S.holds("6: a MONK A to F", "text A0B0C0D0E0F0; fault = NONE; say 71 = 13; fault = 12");
        S.holds("6: the place from 0 on", "text +; fault = 0");
        S.holds("6: the first sign that can not stand there", "text A+1x; fault = 3; text y; fault = 3; text A+; fault = 3");
        S.holds("6: the number of signs, if more must come, 1", "text A; fault = 1");
        S.holds("6: the number of signs, if more must come, 2", "text A+; fault = 2");
        S.holds("6: the number of signs, if more must come, 60", "text " + ".".repeat(59) + "A; fault = 60");
        S.holds("6: the first of 60 signs", "text x" + ".".repeat(59) + "; fault = 0");
        S.holds("6: the last of 60 signs", "text " + ".".repeat(59) + "x; fault = 59");
        S.holds("6: 60 signs without fault", "text " + "A+1".repeat(20) + "; fault = NONE");
        S.holds("6: a PART that can not be is no FAULT", "text A0A+9A+9A+9A+9B-9B-9; fault = NONE; judge 0 = 0");
        S.holds("6: spaces and small letters are no MONKS", "text a+1; fault = 0");
        S.holds("6: gone by wipe", "text x; fault = 0; wipe = 1; fault = NONE");
    }

    private static void judgeHair() {
        for (int m = 0; m < 6; m++) {
            String name = "" + (char) ('A' + m);
            S.holds("7: 1 HAIR of " + name + " would be above 40",
                ("monk M 0 31; text X+9; judge 0 = NONE; judge 1 = NONE; wipe = 3; monk M 0 32; text X+9; judge 0 = 0;"
                    + "judge 1 = 1;"
                + "wipe; monk M 0 40; text X+1; judge 1 = 1; monk M 0 39; judge 1 = NONE").replace("M", ""
                + m).replace("X", name));
            S.holds("7: 2 HAIR of " + name + " is less than what is cut",
                ("monk M 0 9; text X-9; judge 0 = NONE; judge 1 = NONE; monk M 0 8; judge 0 = 0; judge 1 = 2;"
                + "wipe; monk M 0 0; text X-1; judge 1 = 2; monk M 0 1; judge 1 = NONE").replace("M", "" + m).replace("X", name));
        }
        S.holds("7: the PARTS ahead of it count as done, sins",
            "text A+9A+9A+9A+3; judge 0 = NONE; text A+1; judge 0 = 4; judge 1 = 1");
        S.holds("7: the PARTS ahead of it count as done, prayers",
            "text A-9A-1; judge 0 = NONE; text A-1; judge 0 = 2; judge 1 = 2");
        S.holds("7: what was cut may grow again", "monk 0 0 40; text A-1A+1; judge 0 = NONE; text A+1; judge 0 = 2; judge 1 = 1");
        S.holds("7: what has grown may be cut", "monk 0 0 0; text A+4A-4; judge 0 = NONE; text A-1; judge 0 = 2; judge 1 = 2");
        S.holds("7: another's HAIR does not help",
            "monk 1 0 40; monk 0 0 0; text A-1; judge 1 = 2; wipe; text B-9; judge 1 = NONE");
    }

    private static void judgeBasketAndRopes() {
        S.holds("7: 3 THE BASKET has none of his", "text A-1A0; judge 0 = NONE; wipe; text A0; judge 0 = 0; judge 1 = 3");
        S.holds("7: 3 it has none of his any more", "text A-9A0A1; judge 0 = 2; judge 1 = 3");
        S.holds("7: 3 another's does not count", "text A-9B0; judge 0 = 1; judge 1 = 3");
        for (int rope = 0; rope < 4; rope++) {
            String r = "" + rope;
            String other = "" + (rope + 1) % 4;
            S.holds("7: 4 ROPE " + r + " has 8 LOCKS",
                ("act " + "A-1A$".repeat(7) + " = 14; text B-1B$; judge 0 = NONE; done = 2; told 4$ = 8;"
                + "text C-1C$; judge 0 = 1; judge 1 = 4; wipe; text C-1C&; judge 0 = NONE").replace("$", r).replace("&", other));
        }
        S.holds("7: 4 the ninth of one text", "text " + "A-1A0".repeat(9) + "; judge 0 = 17; judge 1 = 4");
        S.holds("7: 4 a WEEK makes room", "text " + "A-1A0".repeat(8) + ".B-1B0; judge 0 = NONE");
        S.holds("7: 4 a WEEK without WEAR makes none", "wear 0; text " + "A-1A0".repeat(8) + ".B-1B0; judge 0 = 18; judge 1 = 4");
        S.holds("7: 5 THE BASKET has 99 of his at most",
            "monk 2 0 40; act C-9C-9C-9C-9C-4 = 5; monk 2 0 40; act C-9C-9C-9C-9C-4 = 5; monk 2 0 40; act C-9C-9 = 2;"
            + "told 32 = 98;"
            + "text C-1; judge 0 = NONE; wipe; text C-2; judge 0 = 0; judge 1 = 5; wipe; text C-1C-1; judge 0 = 1; judge 1 = 5");
        S.holds("7: 5 each MONK has his own 99", BASKET_OF_99 + "text D-9; judge 0 = NONE; done = 1; told 33 = 9; told 32 = 99");
        S.holds("7: 5 there is room when it is woven in",
            BASKET_OF_99 + "monk 2 0 9; text C-9; judge 1 = 5; wipe; text C0C-9; judge 1 = NONE");
        S.holds("7: the least reason, 2 ahead of 5",
            BASKET_OF_99 + "monk 2 0 8; text C-9; judge 1 = 2; wipe; text C-8; judge 1 = 5");
        S.holds("7: the least reason, 3 ahead of 4",
            "act " + "A-1A0".repeat(8) + "; text B0; judge 0 = 0; judge 1 = 3; act B-1 = NO;"
            + "wipe; act B-1 = 1; text B0; judge 1 = 4");
    }

    private static void judge() {
        S.holds("7: NONE, without signs", "judge 0 = NONE; judge 1 = NONE");
        S.holds("7: a WEEK can always be", "wear 9; text " + ".".repeat(60) + "; judge 0 = NONE; judge 1 = NONE");
        S.holds("7: the PART from 0 on, not the sign", "text A+1.B-1B0C0; judge 0 = 4; judge 1 = 3");
        S.holds("7: the last of 60 signs", "text " + ".".repeat(58) + "A0; judge 0 = 58; judge 1 = 3");
        S.holds("7: the first such PART, not the least reason", "text A0B+9B+9B+9B+9; judge 0 = 0; judge 1 = 3");
        S.holds("7: OUTSIDE: what is 0 or 1", "judge -1 = OUTSIDE; judge 2 = OUTSIDE; judge MIN = OUTSIDE; judge MAX = OUTSIDE");
        S.holds("7: NO: there is a FAULT, a sign", "text A0x; judge 0 = NO; judge 1 = NO; told 0 = 3");
        S.holds("7: NO: there is a FAULT, more must come", "text A0A; judge 0 = NO; judge 1 = NO; say 48 = 4; judge 0 = 0");
        S.holds("7: OUTSIDE ahead of NO", "text x; judge -1 = OUTSIDE; judge 2 = OUTSIDE; judge 0 = NO");
        S.holds("7: nothing is done",
            "text A+5A-9A0.; judge 0 = NONE; judge 1 = NONE; told 0 = 9; told 10 = 10; told 30 = 0; told 40 = 0; told 2 = 0");
        S.holds("7: nothing is done ahead of a PART that can not be",
            "text A+5B0; judge 0 = 1; told 10 = 10; told 0 = 5; judge 0 = 1");
    }

    private static void done() {
        S.holds("8: an empty TEXT is of no PARTS", "done = 0; told 2 = 0; done = 0");
        S.holds("8: PARTS, not signs", "act A+1B-1B0. = 4");
        S.holds("8: 60 PARTS", "text " + ".".repeat(60) + "; done = 60; told 2 = 60");
        S.holds("8: the PAD is empty then", "text A+1; done = 1; told 0 = 0; done = 0; told 10 = 11; fault = NONE");
        S.holds("8: + and a digit 1 to 9: HAIR grows so much",
            "act A+1 = 1; told 10 = 11; act A+9 = 1; told 10 = 20; told 11 = 10; told 30 = 0");
        S.holds("8: HAIR grows as far as 40", "monk 5 0 31; act F+9 = 1; told 15 = 40; act F+1 = NO; told 15 = 40");
        S.holds("8: - and a digit 1 to 9: so much is cut, and is in THE BASKET",
            "act F-1 = 1; told 15 = 9; told 35 = 1; act F-9 = 1; told 15 = 0; told 35 = 10; told 34 = 0; act F-1 = NO;"
            + "told 35 = 10");
        S.holds("8: THE BASKET has 99 at most", BASKET_OF_99 + "monk 2 0 1; act C-1 = NO; told 32 = 99; told 12 = 1");
        S.holds("8: a LOCK of all 99", BASKET_OF_99 + "act C3 = 1; told 32 = 0; lock 3 0 0 = 2; lock 3 0 1 = 99");
        S.holds("8: all of his becomes the newest LOCK, none of another's",
            "act A-2A-3B-4A2 = 4; told 30 = 0; told 31 = 4; told 42 = 1; lock 2 0 0 = 0; lock 2 0 1 = 5; led 1 0 = 0");
        for (int rope = 0; rope < 4; rope++) {
            S.holds("8: a digit 0 to 3: ROPE " + rope,
                "act E-7E" + rope + " = 2; told 4" + rope + " = 1; led 4 0 = 7; told 4" + (rope + 1) % 4 + " = 0");
        }
    }

    private static void doneRefused() {
        S.holds("8: NO: there is a FAULT, and nothing is done",
            "text A+1.x; done = NO; told 10 = 10; told 2 = 0; told 0 = 5; fault = 4");
        S.holds("8: NO: there is a FAULT, more must come",
            "text A+1B; done = NO; told 10 = 10; told 0 = 4; say 45; say 49; done = 2");
        S.holds("8: NO: the last PART can not be, and nothing is half done",
            "text A+1B-2B1.C0; done = NO; told 10 = 10; told 11 = 10; told 31 = 0; told 41 = 0; told 2 = 0; told 0 = 11;"
            + "led 1 1 = 0");
        S.holds("8: NO: the first PART can not be", "text D0A+1; done = NO; told 10 = 10; told 0 = 5");
        S.holds("8: NO for each reason",
            "monk 0 0 40; text A+1; done = NO; wipe; monk 0 0 0; text A-1; done = NO; wipe; text A0; done = NO");
        S.holds("8: NO: the ROPE has 8 LOCKS",
            "act " + "A-1A0".repeat(8) + " = 16; act B-1 = 1; text B0; done = NO; told 31 = 1; told 40 = 8");
        S.holds("8: what is refused may be done later",
            "text A0; done = NO; image 0; wipe; act A-1 = 1; text A0; done = 1; lock 0 0 1 = 1");
    }

    private static void locks() {
        S.holds("8: LOCKS one behind another, the oldest first",
            "act A-1A0B-2B0C-3C0 = 6; lock 0 0 0 = 0; lock 0 1 0 = 1; lock 0 2 0 = 2; lock 0 0 1 = 1; lock 0 1 1 = 2;"
            + "lock 0 2 1 = 3");
        S.holds("8: 8 LOCKS at most",
            "wear 0; act " + "A-1A0".repeat(8) + " = 16; told 40 = 8; act .. = 2; told 40 = 8; act B-1B0 = NO; told 40 = 8");
        S.holds("8: two LOCKS of one MONK in one WEEK are two",
            "act A-2A0A-3A0 = 4; told 40 = 2; lock 0 0 1 = 2; lock 0 1 1 = 3; led 0 0 = 5");
        S.holds("8: a full ROPE has room behind a WEEK",
            "act " + "A-1A0".repeat(8) + ". = 17; told 40 = 7; act B-2B0 = 2; told 40 = 8; lock 0 7 0 = 1; lock 0 7 1 = 2;"
            + "act C-1C0 = NO");
        S.holds("8: four full ROPES", "wear 0; monk 0 0 40; act " + "A-1A0".repeat(8) + "; act " + "A-1A1".repeat(8) + "; act "
            + "A-1A2".repeat(8) + "; act " + "A-1A3".repeat(8) + " = 16; told 40 = 8; told 41 = 8; told 42 = 8; told 43 = 8;"
            + "led 0 0 = 32;"
            + "act A-1 = 1; text A0; judge 1 = 4; wipe; text A3; judge 1 = 4");
    }

    private static void weeks() {
        S.holds("8: each ROPE loses WEAR inches",
            "act A-3A0B-4B1C-5C2D-6D3. = 9; lock 0 0 1 = 2; lock 1 0 1 = 3; lock 2 0 1 = 4; lock 3 0 1 = 5; told 2 = 1");
        S.holds("8: WEAR 0: nothing is lost, but the WEEK counts",
            "wear 0; act A-1A0... = 5; lock 0 0 1 = 1; told 2 = 3; lock 0 0 2 = 3; led 0 1 = 0");
        S.holds("8: the oldest first",
            "act A-2A0B-2B0. = 5; lock 0 0 0 = 0; lock 0 0 1 = 1; lock 0 1 1 = 2; led 0 1 = 1; led 1 1 = 0");
        S.holds("8: what is of no inches is no LOCK",
            "act A-1A0B-2B0. = 5; told 40 = 1; lock 0 0 0 = 1; lock 0 0 1 = 2; lock 0 1 0 = UNKNOWN");
        S.holds("8: a WEEK takes no HAIR and nothing of THE BASKET",
            "wear 9; act A-4... = 4; told 10 = 6; told 30 = 4; led 0 1 = 0");
        S.holds("8: a WEEK for ROPES without LOCKS", "wear 9; act . = 1; told 40 = 0; told 43 = 0; told 2 = 1");
    }

    private static void weekBounds() {
        String three = "act A-3A0B-2B0C-4C0 = 6;";
        S.holds("8: WEAR one less than the oldest",
            three + "wear 2; act .; told 40 = 3; lock 0 0 1 = 1; led 0 1 = 2; led 1 1 = 0");
        S.holds("8: WEAR all of the oldest",
            three + "wear 3; act .; told 40 = 2; lock 0 0 0 = 1; lock 0 0 1 = 2; led 0 1 = 3; led 1 1 = 0");
        S.holds("8: WEAR one more than the oldest",
            three + "wear 4; act .; told 40 = 2; lock 0 0 0 = 1; lock 0 0 1 = 1; led 0 1 = 3; led 1 1 = 1");
        S.holds("8: WEAR all of the two oldest",
            three + "wear 5; act .; told 40 = 1; lock 0 0 0 = 2; lock 0 0 1 = 4; led 1 1 = 2; led 2 1 = 0");
        S.holds("8: WEAR one less than the whole ROPE", three + "wear 8; act .; told 40 = 1; lock 0 0 1 = 1; led 2 1 = 3");
        S.holds("8: WEAR the whole ROPE", three + "wear 9; act .; told 40 = 0; led 0 1 = 3; led 1 1 = 2; led 2 1 = 4");
        S.holds("8: WEAR more than the whole ROPE", "act B-8B0; wear 9; act .; told 40 = 0; led 1 1 = 8; act .; led 1 1 = 8");
        S.holds("8: WEAR of one ROPE is not taken from another",
            "act A-1A0B-9B1; wear 5; act .; told 40 = 0; lock 1 0 1 = 4; led 1 1 = 5");
        S.holds("8: WEAR goes through eight LOCKS",
            "act " + "A-1A0".repeat(8) + "; wear 7; act .; told 40 = 1; led 0 1 = 7; act .; told 40 = 0; led 0 1 = 8");
    }

    private static void lock() {
        String some = "act A-5A3.B-6B3..C-2C3 = 9;";
        S.holds("9: 0 its MONK", some + "lock 3 0 0 = 0; lock 3 1 0 = 1; lock 3 2 0 = 2");
        S.holds("9: 1 inches", some + "lock 3 0 1 = 2; lock 3 1 1 = 6; lock 3 2 1 = 2");
        S.holds("9: 2 DATED: how many WEEKS ago it was woven in",
            some + "lock 3 0 2 = 3; lock 3 1 2 = 2; lock 3 2 2 = 0; act . = 1; lock 3 2 2 = 1");
        S.holds("9: DATED stays with a LOCK that moves up",
            some + "act .. = 2; lock 3 0 0 = 1; lock 3 0 2 = 4; lock 3 1 0 = 2; lock 3 1 2 = 2");
        S.holds("9: DATED, 420 WEEKS",
            "wear 0; act A-1A0 = 2;" + ("act " + ".".repeat(60) + " = 60;").repeat(7) + "lock 0 0 2 = 420; told 2 = 420;"
            + "lock 0 0 1 = 1");
        S.holds("9: UNKNOWN: there is no such ROPE",
            some + "lock -1 0 0 = UNKNOWN; lock 4 0 0 = UNKNOWN; lock MIN 0 0 = UNKNOWN; lock MAX 0 0 = UNKNOWN");
        S.holds("9: UNKNOWN: there is no such LOCK", some
            + "lock 3 -1 0 = UNKNOWN; lock 3 3 0 = UNKNOWN; lock 3 2 0 = 2; lock 2 0 0 = UNKNOWN; lock 3 MIN 1 = UNKNOWN;"
            + "lock 3 MAX 2 = UNKNOWN");
        S.holds("9: UNKNOWN: the last of 8",
            "act " + "A-1A0".repeat(8) + "; lock 0 7 1 = 1; lock 0 8 1 = UNKNOWN; lock 1 7 1 = UNKNOWN");
        S.holds("9: UNKNOWN: a LOCK that has worn away",
            "act A-1A0B-1B0. = 5; lock 0 0 0 = 1; lock 0 1 0 = UNKNOWN; act . = 1; lock 0 0 0 = UNKNOWN");
        S.holds("9: OUTSIDE: what is 0 to 2",
            some + "lock 3 0 -1 = OUTSIDE; lock 3 0 3 = OUTSIDE; lock 3 2 MIN = OUTSIDE; lock 3 2 MAX = OUTSIDE");
        S.holds("9: UNKNOWN ahead of OUTSIDE",
            some + "lock 4 0 3 = UNKNOWN; lock -1 0 -1 = UNKNOWN; lock 3 3 3 = UNKNOWN; lock 3 -1 -1 = UNKNOWN");
    }
}
