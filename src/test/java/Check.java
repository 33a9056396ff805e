import java.util.NoSuchElementException;

/** What the tests of this project share: answers that are due, and texts said by sign() and end(). */
final class Check {
    private static int wrong = 0;
    private static int looked = 0;

    interface Call {
        long answer();
    }

    private Check() {
    }

    static void is(String what, long got, long due) {
        looked++;
        if (got != due) {
            wrong++;
            if (wrong <= 50) {
                System.out.println(what + ": " + got + ", due is " + due);
            }
        }
    }

    static void is(String what, boolean got, boolean due) {
        is(what, got ? 1 : 0, due ? 1 : 0);
    }

    static void none(String what, Call call) {
        looked++;
        String got;
        try {
            got = "answered " + call.answer();
        } catch (NoSuchElementException e) {
            return;
        } catch (RuntimeException e) {
            got = "threw " + e;
        }
        wrong++;
        System.out.println(what + ": " + got + ", due is a NoSuchElementException");
    }

    static void row(String what, NobodyBeenAft x, long... due) {
        is(what + " numbers of the row", x.count(11), due.length);
        for (int i = 0; i < due.length && i < x.count(11); i++) {
            is(what + " row(" + i + ")", x.row(i), due[i]);
        }
        none(what + " row behind its end", () -> x.row(due.length));
    }

    /** Leaves the text as THE TEXT, whatever stood there. */
    static void say(NobodyBeenAft x, String text) {
        x.end(0);
        add(x, text);
    }

    /** Puts the text behind THE TEXT. */
    static void add(NobodyBeenAft x, String text) {
        int before = x.count(12);
        for (int i = 0; i < text.length(); i += 4) {
            int v = 0;
            for (int k = 0; k < 4; k++) {
                v = v << 8 | (i + k < text.length() ? text.charAt(i + k) : 0);
            }
            x.sign(v);
        }
        x.end(before + text.length());
    }

    static int ship(NobodyBeenAft x, String text) {
        say(x, text);
        return x.ship();
    }

    static int rocks(NobodyBeenAft x, String text) {
        say(x, text);
        return x.rocks();
    }

    static int messes(NobodyBeenAft x, String text) {
        say(x, text);
        return x.messes();
    }

    static int rule(NobodyBeenAft x, String text) {
        say(x, text);
        return x.rule();
    }

    static int voyage(NobodyBeenAft x, String text) {
        say(x, text);
        return x.voyage();
    }

    static void close(String name) {
        System.out.println(name + ": " + looked + " answers looked at, " + wrong + " wrong");
        if (wrong != 0 || looked == 0) {
            System.exit(1);
        }
    }
}
