/** Counts answers that are not the ones due; a test ends by calling end(). */
final class Checks {
    private int asked = 0;
    private int wrong = 0;

    void due(String call, long got, long want) {
        asked++;
        if (got != want) {
            wrong++;
            System.out.println(call + " answered " + got + ", due is " + want);
        }
    }

    void holds(String what, boolean is) {
        due(what, is ? 1 : 0, 1);
    }

    int wrong() {
        return wrong;
    }

    void end() {
        System.out.println(wrong == 0 ? asked + " answers, all as due" : wrong + " of " + asked + " answers are not as due");
        if (wrong != 0) {
            System.exit(1);
        }
    }

    /** Puts signs on the pad. */
    static void write(Bridge x, String text) {
        for (int i = 0; i < text.length(); i++) {
            x.say(text.charAt(i));
        }
    }

    /** Puts signs on the pad and has them done; what done() answers. */
    static int act(Bridge x, String text) {
        write(x, text);
        return x.done();
    }

    /** All that can be asked of an object without changing it, as one text: for calls that must change nothing. */
    static String look(Bridge x) {
        StringBuilder all = new StringBuilder();
        for (int what = 0; what <= 35; what++) {
            if (what < 5 || what >= 10 && what % 10 < 6) {
                all.append(x.told(what)).append(' ');
            }
        }
        for (int rope = 0; rope < 4; rope++) {
            int locks = x.told(40 + rope);
            for (int lock = 0; lock < locks; lock++) {
                for (int what = 0; what < 3; what++) {
                    all.append(x.lock(rope, lock, what)).append(' ');
                }
            }
            all.append(locks).append(' ');
        }
        for (int monk = 0; monk < 6; monk++) {
            all.append(x.led(monk, 1)).append(' ');
        }
        for (int i = -1; i < 6; i++) {
            all.append(x.best(i)).append(' ');
        }
        all.append(x.canBe(-1)).append(' ').append(x.sure(0)).append(' ').append(x.sure(1));
        all.append(' ').append(x.fault()).append(' ').append(x.judge(0)).append(' ').append(x.judge(1));
        return all.toString();
    }
}
