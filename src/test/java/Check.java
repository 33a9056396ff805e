import java.util.NoSuchElementException;

/** What the tests of this project share: answers that are due, and texts said by sign() and end(). */
final class Check {
    private static int wrong = 0;
    private static int looked = 0;
    private static int sentences = 0;
    /** What stands ahead of each thing that is told: the sentence that is tested. */
    private static String of = "";

    interface Call {
        long answer();
    }

    interface CallOn {
        long answer(NobodyBeenAft x);
    }

    private Check() {
    }

    static void is(String what, long got, long due) {
        looked++;
        if (got != due) {
            wrong++;
            if (wrong <= 50) {
                System.out.println(of + what + ": " + got + ", due is " + due);
            }
        }
    }

    static void is(String what, boolean got, boolean due) {
        is(what, got ? 1 : 0, due ? 1 : 0);
    }

    static void none(String what, Call call) {
        looked++;
        String got;
        try {
            got = "answered " + call.answer();
        } catch (NoSuchElementException e) {
            return;
        } catch (RuntimeException e) {
            got = "threw " + e;
        }
        wrong++;
        System.out.println(of + what + ": " + got + ", due is a NoSuchElementException");
    }

    /** The test of one sentence of the document; one that looks at nothing is wrong by itself. */
    static void sentence(String promise, String words, Runnable test) {
        of = promise + " '" + words + "': ";
        sentences++;
        int before = looked;
        try {
            test.run();
        } catch (RuntimeException e) {
            wrong++;
            System.out.println(of + "threw " + e);
        }
        if (looked == before) {
            wrong++;
            System.out.println(of + "nothing is looked at");
        }
        of = "";
    }

    /** The call answers what is due, and what can be seen of the object stays. */
    static void stays(String what, NobodyBeenAft x, CallOn call, long due) {
        String before = seen(x) + " " + x.count(12) + " signs";
        is(what, call.answer(x), due);
        same(what, seen(x) + " " + x.count(12) + " signs", before);
    }

    /** As stays(), by a call that reads the text. */
    static void staysButText(String what, NobodyBeenAft x, String text, CallOn call, long due) {
        say(x, text);
        String before = seen(x);
        is(what, call.answer(x), due);
        same(what, seen(x), before);
        is(what + " empties THE TEXT", x.count(12), 0);
    }

    private static void same(String what, String got, String due) {
        looked++;
        if (!got.equals(due)) {
            wrong++;
            System.out.println(of + what + ": changed\n  " + due + " to\n  " + got);
        }
    }

    /** All that can be seen of an object but THE TEXT. */
    private static String seen(NobodyBeenAft x) {
        StringBuilder all = new StringBuilder("counts");
        for (int i = 0; i < 12; i++) {
            all.append(' ').append(x.count(i));
        }
        all.append(", delay ").append(x.delay()).append(", row");
        for (int i = 0; i < x.count(11); i++) {
            all.append(' ').append(x.row(i));
        }
        all.append(", posts");
        for (int i = 0; i < x.count(1); i++) {
            all.append(' ').append(x.post(i, 0)).append('*').append(x.post(i, 1));
        }
        all.append(", rocks");
        for (int i = 0; i < x.count(3); i++) {
            all.append(' ').append(x.rock(i, 0)).append(',').append(x.rock(i, 1));
        }
        all.append(", messes");
        for (int i = 0; i < x.count(4); i++) {
            all.append(' ').append(x.mess(i, 0)).append('*').append(x.mess(i, 1)).append(' ').append(x.mess(i, 2));
        }
        all.append(", orders");
        for (int i = 0; i < x.count(8); i++) {
            all.append(' ').append(x.way(i, 0)).append(':').append(x.way(i, 1));
        }
        return all.toString();
    }

    static void row(String what, NobodyBeenAft x, long... due) {
        is(what + " numbers of the row", x.count(11), due.length);
        for (int i = 0; i < due.length && i < x.count(11); i++) {
            is(what + " row(" + i + ")", x.row(i), due[i]);
        }
        none(what + " row behind its end", () -> x.row(due.length));
    }

    /** Leaves the text as THE TEXT, whatever stood there. */
    static void say(NobodyBeenAft x, String text) {
        x.end(0);
        add(x, text);
    }

    /** Puts the text behind THE TEXT. */
    static void add(NobodyBeenAft x, String text) {
        int before = x.count(12);
        for (int i = 0; i < text.length(); i += 4) {
            int v = 0;
            for (int k = 0; k < 4; k++) {
                v = v << 8 | (i + k < text.length() ? text.charAt(i + k) : 0);
            }
            x.sign(v);
        }
        x.end(before + text.length());
    }

    static int ship(NobodyBeenAft x, String text) {
        say(x, text);
        return x.ship();
    }

    static int rocks(NobodyBeenAft x, String text) {
        say(x, text);
        return x.rocks();
    }

    static int messes(NobodyBeenAft x, String text) {
        say(x, text);
        return x.messes();
    }

    static int rule(NobodyBeenAft x, String text) {
        say(x, text);
        return x.rule();
    }

    static int voyage(NobodyBeenAft x, String text) {
        say(x, text);
        return x.voyage();
    }

    static void close(String name) {
        String of = sentences == 0 ? "" : " for " + sentences + " sentences";
        System.out.println(name + ": " + looked + " answers looked at" + of + ", " + wrong + " wrong");
        if (wrong != 0 || looked == 0) {
            System.exit(1);
        }
    }
}
