/** Promises 10 to 14, sentence by sentence: first and last numbers, empty and full, refusals. */
public final class BridgeBoundsTest {
    private static final Sentences S = new Sentences();

    public static void main(String[] args) {
        power();
        mostPower();
        bears();
        broken();
        brokenOneBehindTheOther();
        share();
        shareRefused();
        led();
        worn();
        S.end();
    }

    /** ROPES of these POWERS (40 at most): ROPE r has a LOCK of MONK r, whose STRONG is 1. */
    private static String ropes(int... powers) {
        StringBuilder run = new StringBuilder();
        for (int r = 0; r < powers.length; r++) {
            char name = (char) ('A' + r);
            run.append("monk ").append(r).append(" 1 1; monk ").append(r).append(" 0 40;");
            StringBuilder text = new StringBuilder();
            for (int left = powers[r]; left > 0; left -= 9) {
                text.append(name).append('-').append(Math.min(9, left));
            }
            if (powers[r] > 0) {
                run.append("act ").append(text).append(name).append(r).append(';');
            }
        }
        return run.toString();
    }

    private static void power() {
        S.holds("10: POWER of a ROPE without LOCKS", "power 0 = 0; power 1 = 0; power 2 = 0; power 3 = 0");
        S.holds("10: inches, each times STRONG of its MONK",
            "monk 0 1 9; monk 1 1 2; act A-3A0B-4B0A-2A1 = 6; power 0 = 35; power 1 = 18; power 2 = 0");
        S.holds("10: STRONG as it is now",
            "act A-3A3 = 2; power 3 = 15; monk 0 1 9; power 3 = 27; monk 0 1 0; power 3 = 0; monk 1 1 9; power 3 = 0");
        S.holds("10: STRONG 0: inches without POWER", "monk 0 1 0; act A-9A0B-1B0 = 4; power 0 = 5; told 40 = 2");
        S.holds("10: an inch that wears away",
            "act A-2A0B-2B0 = 4; monk 0 1 9; power 0 = 28; act . = 1; power 0 = 19; act . = 1; power 0 = 10; act .. = 2;"
            + "power 0 = 0");
        S.holds("10: HAIR and THE BASKET have no POWER", "monk 0 0 40; act A-9 = 1; power 0 = 0; bears = 0");
        S.holds("10: UNKNOWN: there is no such ROPE",
            "act A-1A0B-1B3 = 4; power -1 = UNKNOWN; power 4 = UNKNOWN; power MIN = UNKNOWN; power MAX = UNKNOWN; power 0 = 5;"
            + "power 3 = 5");
    }

    /** Eight LOCKS of 99 inches, each of the greatest STRONG: the most POWER that there can be. */
    private static void mostPower() {
        StringBuilder run = new StringBuilder("wear 0; monk 0 1 9;");
        for (int n = 0; n < 8; n++) {
            run.append("monk 0 0 33; act A-9A-9A-9A-6 = 4;".repeat(3)).append("act A0 = 1;");
        }
        run.append("told 40 = 8; lock 0 7 1 = 99; led 0 0 = 792; power 0 = 7128; bears = 7128;");
        run.append("broken 7128 = 0; broken 7129 = 1; share 0 0 = 1; share 0 1 = 1; load 7128 1; load 7129 1; best -1 = 1;"
            + "best 0 = 0; best 1 = 1;");
        run.append("soon 2 1 1 7128 = 0; renewed 4 7128 -1 = 0; renewed 4 7129 -1 = NONE");
        S.holds("10, 11, 12: 8 LOCKS of 99 inches, STRONG 9", run.toString());
    }

    private static void bears() {
        S.holds("11: no ROPES", "bears = 0");
        S.holds("11: ROPES without POWER", "monk 0 1 0; act A-9A0 = 2; bears = 0; broken 1 = 0");
        S.holds("11: one ROPE", ropes(0, 0, 7) + "bears = 7");
        S.holds("11: each the same share", ropes(5, 5, 5, 5) + "bears = 20");
        S.holds("11: one less strong ROPE", ropes(5, 5, 5, 4) + "bears = 16");
        S.holds("11: four hold as much as three", ropes(8, 8, 8, 6) + "bears = 24");
        S.holds("11: two ROPES hold as much as the strongest", ropes(10, 5) + "bears = 10");
        S.holds("11: two ROPES hold more than the strongest", ropes(9, 5) + "bears = 10");
        S.holds("11: the strongest alone holds more", ropes(11, 5) + "bears = 11");
        S.holds("11: the greatest LOAD, three of four", ropes(1, 7, 10, 8) + "bears = 21; broken 21 = 1; broken 22 = 15");
        S.holds("11: two of four", ropes(2, 20, 3, 19) + "bears = 38; broken 38 = 5; broken 39 = 15");
        S.holds("11: one of four", ropes(2, 3, 2, 40) + "bears = 40; broken 40 = 7; broken 41 = 15");
        S.holds("11: as it is now",
            "act A-9A0 = 2; bears = 45; act . = 1; bears = 40; monk 0 1 1; bears = 8; wear 8; act . = 1; bears = 0");
    }

    private static void broken() {
        S.holds("12: a LOAD of 0 is always held", "broken 0 = 0");
        S.holds("12: a LOAD of 0 breaks nothing", ropes(1, 2, 3, 4) + "broken 0 = 0");
        S.holds("12: a LOAD (0 to 99999)",
            ropes(1, 2) + "broken 99999 = 3; broken 100000 = OUTSIDE; broken -1 = OUTSIDE; broken MIN = OUTSIDE;"
            + "broken MAX = OUTSIDE");
        S.holds("12: POWER that is the share holds", ropes(7, 7) + "broken 14 = 0; broken 15 = 3");
        S.holds("12: POWER that is less by a part of one",
            ropes(9, 9, 9, 5) + "broken 20 = 0; broken 21 = 8; broken 27 = 8; broken 28 = 15");
        S.holds("12: all that are too weak break at once",
            ropes(9, 2, 9, 2) + "broken 9 = 10; broken 8 = 0; broken 18 = 10; broken 19 = 15");
        S.holds("12: ROPES with some POWER hold it, the others neither hold nor break",
            ropes(0, 5, 0, 5) + "broken 10 = 0; broken 11 = 10");
        S.holds("12: a ROPE of STRONG 0 does not break",
            ropes(5, 5) + "monk 1 1 0; broken 5 = 0; broken 6 = 1; broken 99999 = 1");
        S.holds("12: no ROPES, nothing breaks", "broken 1 = 0; broken 99999 = 0");
        S.holds("12: bits of each ROPE", ropes(3) + "broken 4 = 1");
        S.holds("12: bits of the last ROPE", ropes(0, 0, 0, 3) + "broken 4 = 8; broken 3 = 0");
        S.holds("12: nothing breaks in fact",
            ropes(6, 3, 2, 1) + "broken 99999 = 15; power 0 = 6; power 3 = 1; bears = 6; broken 4 = 0; broken 5 = 8;"
            + "broken 99999 = 15");
    }

    private static void brokenOneBehindTheOther() {
        String four = ropes(23, 11, 7, 5);
        S.holds("12: then the others hold it, and so on: none", four + "broken 20 = 0");
        S.holds("12: then the others hold it, and so on: one", four + "broken 21 = 8");
        S.holds("12: then the others hold it, and so on: two", four + "broken 22 = 12");
        S.holds("12: then the others hold it, and so on: three", four + "broken 23 = 14; bears = 23");
        S.holds("12: then the others hold it, and so on: all", four + "broken 24 = 15");
    }

    private static void share() {
        S.holds("13: by part, 0 the upper, 1 the lower",
            "act A-1A0B-2B1 = 4; share 0 0 = 1; share 0 1 = 3; share 1 0 = 2; share 1 1 = 3");
        S.holds("13: in lowest terms",
            "act A-4A0B-2B0A-2A3C-4C1 = 8; share 0 0 = 1; share 0 1 = 2; share 1 0 = 1; share 1 1 = 6; share 2 0 = 1;"
            + "share 2 1 = 3");
        S.holds("13: nothing of it", "act A-4A0 = 2; share 5 0 = 0; share 5 1 = 1");
        S.holds("13: all of it", "act F-4F0 = 2; share 5 0 = 1; share 5 1 = 1; share 0 0 = 0; share 0 1 = 1");
        S.holds("13: POWER of his by that of all ROPES",
            "monk 0 1 7; monk 1 1 4; act A-3A0B-5B3A-2A2 = 6; share 0 0 = 7; share 0 1 = 11; share 1 0 = 4; share 1 1 = 11");
        S.holds("13: STRONG 0: nothing of it",
            "act A-3A0B-3B0 = 4; monk 0 1 0; share 0 0 = 0; share 0 1 = 1; share 1 0 = 1; share 1 1 = 1");
        S.holds("13: no common divisor",
            "monk 0 1 7; monk 1 1 9; act A-9A0B-7B0A-1A1 = 6; share 0 0 = 10; share 0 1 = 19; monk 0 1 8; share 0 0 = 80;"
            + "share 0 1 = 143");
        S.holds("13: THE BASKET has no share", "act A-3A0B-3 = 3; share 0 0 = 1; share 0 1 = 1; share 1 0 = 0");
    }

    private static void shareRefused() {
        String some = "act A-3A0B-2B1 = 4;";
        S.holds("13: UNKNOWN: there is no such MONK", some
            + "share -1 0 = GONE+UNKNOWN; share 6 0 = GONE+UNKNOWN; share MIN 1 = GONE+UNKNOWN; share MAX 1 = GONE+UNKNOWN;"
            + "share 5 0 = 0; share 0 0 = 3");
        S.holds("13: OUTSIDE: part is 0 or 1", some
            + "share 0 -1 = GONE+OUTSIDE; share 0 2 = GONE+OUTSIDE; share 5 MIN = GONE+OUTSIDE; share 5 MAX = GONE+OUTSIDE");
        S.holds("13: STATE: there is no POWER at all",
            "share 0 0 = GONE+STATE; share 0 1 = GONE+STATE; share 5 0 = GONE+STATE; share 5 1 = GONE+STATE");
        S.holds("13: STATE: inches, but no POWER",
            some + "monk 0 1 0; share 0 0 = 0; monk 1 1 0; share 0 0 = GONE+STATE; share 1 1 = GONE+STATE;"
            + "share 2 0 = GONE+STATE");
        S.holds("13: STATE: all has worn away", "act A-1A0 = 2; share 0 1 = 1; act . = 1; share 0 1 = GONE+STATE");
        S.holds("13: UNKNOWN ahead of OUTSIDE", some + "share -1 -1 = GONE+UNKNOWN; share 6 2 = GONE+UNKNOWN");
        S.holds("13: UNKNOWN ahead of STATE", "share -1 0 = GONE+UNKNOWN; share 6 1 = GONE+UNKNOWN; share 6 2 = GONE+UNKNOWN");
        S.holds("13: OUTSIDE ahead of STATE", "share 0 -1 = GONE+OUTSIDE; share 0 2 = GONE+OUTSIDE; share 5 2 = GONE+OUTSIDE");
    }

    private static void led() {
        S.holds("14: LED: inches of a MONK in all ROPES",
            "act A-1A0A-2A1B-4B1A-3A2A-4A3 = 10; led 0 0 = 10; led 1 0 = 4; led 2 0 = 0");
        S.holds("14: LED: two LOCKS in one ROPE", "act F-1F3E-5E3F-2F3 = 6; led 5 0 = 3; led 4 0 = 5");
        S.holds("14: LED: not HAIR, not THE BASKET",
            "act A-3 = 1; led 0 0 = 0; act A0 = 1; led 0 0 = 3; act A-2 = 1; led 0 0 = 3");
        S.holds("14: LED: not by STRONG", "act A-3A0 = 2; monk 0 1 0; led 0 0 = 3; monk 0 1 9; led 0 0 = 3");
        S.holds("14: LED: less by what is worn",
            "act A-3A0 = 2; act .. = 2; led 0 0 = 1; act . = 1; led 0 0 = 0; act . = 1; led 0 0 = 0");
        S.holds("14: UNKNOWN: there is no such MONK",
            "act A-3A0F-2F0 = 4; led -1 0 = UNKNOWN; led 6 0 = UNKNOWN; led MIN 1 = UNKNOWN; led MAX 1 = UNKNOWN; led 0 0 = 3;"
            + "led 5 0 = 2");
        S.holds("14: OUTSIDE: what is 0 or 1", "led 0 -1 = OUTSIDE; led 0 2 = OUTSIDE; led 5 MIN = OUTSIDE; led 5 MAX = OUTSIDE");
        S.holds("14: UNKNOWN ahead of OUTSIDE", "led -1 -1 = UNKNOWN; led 6 2 = UNKNOWN");
    }

    private static void worn() {
        S.holds("14: WORN: inches of his that have worn away", "act A-3A0B-2B1. = 5; led 0 1 = 1; led 1 1 = 1; led 2 1 = 0");
        S.holds("14: WORN: in all ROPES",
            "act A-3A0A-2A1A-1A2A-2A3. = 9; led 0 1 = 4; act . = 1; led 0 1 = 7; act . = 1; led 0 1 = 8");
        S.holds("14: WORN: no more than there was", "wear 9; act A-3A0. = 3; led 0 1 = 3; act .. = 2; led 0 1 = 3");
        S.holds("14: WORN: ever, also of LOCKS that are gone",
            "wear 9; act A-3A0. = 3; act A-4A1. = 3; led 0 1 = 7; led 0 0 = 0");
        S.holds("14: WORN: of a LOCK behind another one", "wear 2; act A-1A0B-3B0. = 5; led 0 1 = 1; led 1 1 = 1");
        S.holds("14: WORN: not what is cut, lost or tried", """
            act A-5A0B-3 = 3; load 0 1; best -1 = 1; renewed 1 0 -1 = 0; soon 63 9 1 9999 = NONE; year 7 60 0
            led 0 1 = 0; led 1 1 = 0; led 5 1 = 0""");
    }
}
