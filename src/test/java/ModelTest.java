import java.util.NoSuchElementException;
import java.util.Random;

/** Runs of drawn calls on an object and on the plain model: each answer, row and count must be one. */
public final class ModelTest {
    private static final String[] CALLS = {"sign", "end", "ship", "rocks", "messes", "rule", "post",
        "rock", "mess", "way", "sheet", "delay", "order", "pass", "cook", "steps", "voyage", "undo",
        "lane", "strikes", "clears", "plan", "latest", "lanes", "safest", "late", "comes", "relay",
        "fewest", "word", "survives", "lives", "shares", "fast", "seen", "forget", "ordered",
        "unsure", "boy", "meets", "knows", "mutiny", "chance", "voyages", "keep", "again", "order",
        "order", "order", "steps", "steps", "voyage", "seen", "seen", "clears", "lanes", "latest",
        "plan", "shares", "lives", "undo", "pass", "strikes", "lane", "rocks", "messes", "rule"};

    private final Random random;
    private final NobodyBeenAft x = new NobodyBeenAft();
    private final Model m = new Model();
    private final StringBuilder log = new StringBuilder();
    private int calls = 0;
    /** Whither most orders go, so that some runs come to the edge of the sea. */
    private final int drift;

    private ModelTest(long seed) {
        random = new Random(seed);
        drift = draw(4) > 1 ? 0 : draw(2) * 2 - 1;
    }

    public static void main(String[] args) {
        int runs = args.length > 0 ? Integer.parseInt(args[0]) : 1500;
        int from = args.length > 1 ? Integer.parseInt(args[1]) : 0;
        int wrong = 0;
        long looked = 0;
        for (int i = from; i < from + runs && wrong < 5; i++) {
            ModelTest test = new ModelTest(i);
            String fault = test.run();
            looked += test.calls;
            if (fault != null) {
                wrong++;
                System.out.println("run " + i + ": " + fault + "\n" + test.log);
            }
        }
        System.out.println("ModelTest: " + runs + " runs, " + looked + " calls, " + wrong + " wrong");
        if (wrong > 0) {
            System.exit(1);
        }
    }

    private int draw(int n) {
        return random.nextInt(n);
    }

    /** Mostly least .. most, now and then one off. */
    private int draw(int least, int most) {
        int what = draw(40);
        if (what == 0) {
            return most + 1;
        }
        if (what == 1) {
            return least - 1;
        }
        if (what == 2) {
            return draw(4) == 0 ? random.nextInt() : draw(2) == 0 ? most : least;
        }
        return least + draw(most - least + 1);
    }

    private String run() {
        // the object has 512 calls; the ones that look at it count as well
        while (calls < 330) {
            String call = CALLS[draw(CALLS.length)];
            String fault = one(call);
            if (fault != null) {
                return call + " " + fault;
            }
        }
        return null;
    }

    private String number() {
        String[] all = {"0", "1", "2", "3", "5", "7", "8", "12", "40", "999", "46340", "l", "p", "x", "n", "n"};
        return all[draw(all.length)];
    }

    private String expression(int depth) {
        StringBuilder b = new StringBuilder();
        int things = 1 + draw(3);
        boolean compares = draw(5) == 0;
        for (int i = 0; i < things; i++) {
            if (i > 0) {
                b.append(compares ? "<>=".charAt(draw(3)) : "+-*/+-*/".charAt(draw(8)));
                compares = compares && draw(12) == 0;
            }
            while (draw(8) == 0) {
                b.append('-');
            }
            b.append(depth > 0 && draw(3) == 0 ? "(" + expression(depth - 1) + ")" : number());
        }
        return b.toString();
    }

    private String shipText() {
        int longs = draw(12) == 0 ? draw(50) : draw(2) == 0 ? 2 + draw(15) : 2 + draw(39);
        StringBuilder b = new StringBuilder().append(longs);
        int cell = -1;
        int steps = 1 + draw(6);
        for (int i = draw(12); i > 0; i--) {
            cell += 1 + draw(steps);
            if (cell >= longs && draw(10) > 0) {
                break;
            }
            b.append(',').append(draw(12) == 0 && cell < 10 ? "0" : "").append(cell);
            b.append(draw(3) == 0 ? "*" : "");
        }
        return b.toString();
    }

    private String rockText() {
        StringBuilder b = new StringBuilder();
        for (int i = draw(10) == 0 ? draw(19) : draw(6); i >= 0; i--) {
            int mile = draw(6) == 0 ? draw(1000) : Math.min(999, m.s.now + 1 + draw(draw(2) == 0 ? 8 : 30));
            String padded = "00" + mile;
            b.append(draw(10) == 0 ? padded.substring(Math.max(0, padded.length() - 3)) : "" + mile);
            b.append(',').append(draw(2) == 0 ? Math.max(0, Math.min(8, m.s.lane + draw(3) - 1)) : draw(9));
            b.append(i > 0 ? ";" : "");
        }
        return b.toString();
    }

    private String messText() {
        StringBuilder b = new StringBuilder();
        for (int i = draw(5) == 0 ? draw(9) : draw(3); i >= 0; i--) {
            b.append(draw(2) == 0 ? draw(100) : draw(20)).append('*').append(draw(2) == 0 ? draw(10) : draw(3));
            b.append(i > 0 ? ";" : "");
        }
        return b.toString();
    }

    private String voyageText() {
        StringBuilder b = new StringBuilder();
        for (int i = draw(4) == 0 ? draw(62) : draw(12); i > 0; i--) {
            switch (draw(4)) {
                case 0:
                    b.append("<=>".charAt(drift != 0 && draw(3) > 0 ? drift + 1 : draw(3)));
                    break;
                case 1:
                    b.append('p').append(draw(draw(3) == 0 ? 10 : 2));
                    break;
                default:
                    b.append(draw(4) == 0 ? 1 + draw(9) : 1);
            }
        }
        return b.toString();
    }

    private static final String ODD = "0123456789,;*<>=p()-+/lxn .:\0";

    private String spoil(String text) {
        StringBuilder b = new StringBuilder(text);
        for (int i = draw(6) == 0 ? 1 + draw(2) : 0; i > 0; i--) {
            int at = draw(b.length() + 1);
            char c = draw(5) == 0 ? (char) draw(256) : ODD.charAt(draw(ODD.length()));
            switch (draw(3)) {
                case 0:
                    b.insert(at, c);
                    break;
                case 1:
                    if (at < b.length()) {
                        b.setCharAt(at, c);
                    }
                    break;
                default:
                    if (at < b.length()) {
                        b.deleteCharAt(at);
                    }
            }
        }
        if (draw(60) == 0) {
            b.setLength(draw(b.length() + 1));
        }
        return b.substring(0, Math.min(80, b.length()));
    }

    private void say(String text) {
        log.append(text).append(' ');
        Check.say(x, text);
        m.text.setLength(0);
        m.text.append(text);
        calls += text.length() / 4 + 3;
    }

    private String text(String call) {
        switch (call) {
            case "ship":
                return shipText();
            case "rocks":
                return rockText();
            case "messes":
                return messText();
            case "rule":
                return expression(draw(6));
            default:
                return voyageText();
        }
    }

    private interface Two {
        long answer();
    }

    private static String look(Two of) {
        try {
            return "" + of.answer();
        } catch (NoSuchElementException e) {
            return "none";
        } catch (RuntimeException e) {
            return "threw " + e;
        }
    }

    private String one(String call) {
        calls++;
        log.append(call).append(' ');
        if (!call.equals("sign") && !call.equals("end")
            && ("ship rocks messes rule voyage".contains(call)) && draw(15) > 0) {
            say(spoil(text(call)));
        }
        int[] a = args(call);
        for (int v : a) {
            log.append(v).append(' ');
        }
        String due = look(() -> model(call, a));
        String got = look(() -> object(call, a));
        log.append("= ").append(got).append('\n');
        if (due.equals("" + Model.UNKNOWN)) {
            return unknown(call, a, Long.parseLong(got));
        }
        if (!got.equals(due)) {
            return "answered " + got + ", due is " + due;
        }
        return compareAll();
    }

    /** Where the model can't try all, the row is the object's. */
    private String unknown(String call, int[] a, long got) {
        m.row.clear();
        for (int i = 0; i < x.count(11); i++) {
            m.row.add(x.row(i));
        }
        if (call.equals("plan") && got >= 0) {
            int many = 0;
            for (long v : m.row) {
                many += v != 0 ? 1 : 0;
            }
            return many != got || m.row.size() != a[0] ? "told a row of " + many : null;
        }
        return null;
    }

    private String compareAll() {
        for (int i = -1; i <= 13; i++) {
            if (x.count(i) != m.count(i)) {
                return "count(" + i + ") is " + x.count(i) + ", due is " + m.count(i);
            }
        }
        for (int i = -1; i <= m.row.size(); i++) {
            int k = i;
            String due = look(() -> m.row(k));
            String got = look(() -> x.row(k));
            if (!got.equals(due)) {
                return "row(" + i + ") is " + got + ", due is " + due + " of " + m.row;
            }
        }
        String[] of = {"post", "rock", "mess", "way"};
        int[] sizes = {m.posts.size(), m.rocks.size(), m.eats.length, m.s.under.size()};
        for (int k = 0; k < 4; k++) {
            String call = of[k];
            for (int i = 0; i < sizes[k]; i++) {
                for (int w = 0; w < (k == 2 ? 3 : 2); w++) {
                    int[] a = {i, w};
                    if (model(call, a) != object(call, a)) {
                        return call + " " + i + " " + w + " is " + object(call, a) + ", due is "
                            + model(call, a);
                    }
                }
            }
        }
        return null;
    }

    private int[] args(String call) {
        switch (call) {
            case "sign":
                return new int[] {random.nextInt()};
            case "end":
                return new int[] {draw(-1, m.text.length() + 1)};
            case "post":
            case "rock":
            case "mess":
            case "way":
                return new int[] {draw(-1, 12), draw(-1, 4)};
            case "sheet":
                return new int[] {draw(0, 3), draw(0, 8), draw(2) == 0 ? random.nextInt() : draw(300) - 20,
                    draw(4) == 0 ? random.nextInt() : draw(9) - 4};
            case "order":
                return new int[] {drift != 0 && draw(3) > 0 ? drift : draw(-1, 1)};
            case "pass":
                return new int[] {draw(0, Math.max(0, m.eats.length - 1)),
                    draw(3) == 0 ? draw(1, 99) : draw(1, 9), draw(0, 1)};
            case "cook":
                return new int[] {draw(0, Math.max(0, m.eats.length - 1)), draw(0, 99)};
            case "steps":
                return new int[] {draw(3) > 0 ? draw(4) : draw(0, 60)};
            case "lane":
                return new int[] {draw(0, 60)};
            case "plan":
                return new int[] {draw(3) > 0 ? draw(1, 8) : draw(1, 30)};
            case "latest":
            case "lanes":
                return new int[] {draw(4) > 0 ? draw(0, 8) : draw(0, 30)};
            case "safest":
                return new int[] {draw(2) == 0 ? draw(1, 30) : draw(1, 999)};
            case "late":
                return new int[] {draw(1, 30)};
            case "comes":
            case "knows":
            case "boy":
            case "chance":
            case "word":
            case "survives":
            case "mutiny":
            case "meets":
                return plain(call);
            case "relay":
                return new int[] {draw(0, 10)};
            case "fewest":
                return new int[] {draw(1, 39)};
            case "lives":
                return new int[] {draw(0, 3)};
            case "shares":
            case "fast":
                return new int[] {draw(3) == 0 ? draw(0, 99) : draw(0, 12)};
            case "seen":
                return new int[] {draw(3) == 0 ? draw(0, 24) : draw(0, 9),
                    draw(3) == 0 ? draw(0, 8) : draw(3, 6)};
            case "voyages":
                return new int[] {random.nextInt(), draw(1, 60)};
            case "keep":
            case "again":
                return new int[] {draw(0, 2)};
            default:
                return new int[0];
        }
    }

    private int[] plain(String call) {
        switch (call) {
            case "comes":
                return new int[] {draw(0, 12)};
            case "knows":
                return new int[] {draw(0, 12), draw(0, 10)};
            case "boy":
                return new int[] {draw(2) == 0 ? draw(0, 99999) : draw(0, 90), draw(2, 9)};
            case "chance":
                return new int[] {draw(1, 12), draw(0, 10), draw(0, 12)};
            case "word":
                return new int[] {draw(1, 15), draw(0, 10)};
            case "survives":
                return new int[] {draw(0, 10), draw(0, 100)};
            case "mutiny":
                return new int[] {draw(1, 20), draw(1, 20), draw(1, 18)};
            default:
                return new int[] {draw(2, 9)};
        }
    }

    private static long bit(boolean b) {
        return b ? 1 : 0;
    }

    private long model(String call, int[] a) {
        switch (call) {
            case "sign":
                return m.sign(a[0]);
            case "end":
                return bit(m.end(a[0]));
            case "ship":
                return m.ship();
            case "rocks":
                return m.rocks();
            case "messes":
                return m.messes();
            case "rule":
                return m.rule();
            case "post":
                return m.post(a[0], a[1]);
            case "rock":
                return m.rock(a[0], a[1]);
            case "mess":
                return m.mess(a[0], a[1]);
            case "way":
                return m.way(a[0], a[1]);
            case "sheet":
                return m.sheet(a[0], a[1], a[2], a[3]);
            case "delay":
                return m.delay();
            case "order":
                return m.order(a[0]);
            case "pass":
                return m.pass(a[0], a[1], a[2]);
            case "cook":
                return m.cook(a[0], a[1]);
            case "steps":
                return m.steps(a[0]);
            case "voyage":
                return m.voyage();
            case "undo":
                return m.undo();
            case "lane":
                return m.lane(a[0]);
            case "strikes":
                return m.strikes();
            case "clears":
                return m.clears();
            case "plan":
                return m.plan(a[0]);
            case "latest":
                return m.latest(a[0]);
            case "lanes":
                return m.lanes(a[0]);
            case "safest":
                return m.safest(a[0]);
            case "late":
                return m.late(a[0]);
            case "comes":
                return m.comes(a[0]);
            case "relay":
                return m.relay(a[0]);
            case "fewest":
                return m.fewest(a[0]);
            case "word":
                return m.word(a[0], a[1]);
            case "survives":
                return m.survives(a[0], a[1]);
            case "lives":
                return m.lives(a[0]);
            case "shares":
                return m.shares(a[0]);
            case "fast":
                return m.fast(a[0]);
            case "seen":
                return m.seen(a[0], a[1]);
            case "forget":
                return m.forget();
            case "ordered":
                return m.ordered();
            case "unsure":
                return m.unsure();
            case "boy":
                return m.boy(a[0], a[1]);
            case "meets":
                return m.meets(a[0]);
            case "knows":
                return m.knows(a[0], a[1]);
            case "mutiny":
                return m.mutiny(a[0], a[1], a[2]);
            case "chance":
                return m.chance(a[0], a[1], a[2]);
            case "voyages":
                return m.voyages(a[0], a[1]);
            case "keep":
                return bit(m.keep(a[0]));
            case "again":
                return bit(m.again(a[0]));
            default:
                throw new IllegalStateException(call);
        }
    }

    private long object(String call, int[] a) {
        switch (call) {
            case "sign":
                return x.sign(a[0]);
            case "end":
                return bit(x.end(a[0]));
            case "ship":
                return x.ship();
            case "rocks":
                return x.rocks();
            case "messes":
                return x.messes();
            case "rule":
                return x.rule();
            case "post":
                return x.post(a[0], a[1]);
            case "rock":
                return x.rock(a[0], a[1]);
            case "mess":
                return x.mess(a[0], a[1]);
            case "way":
                return x.way(a[0], a[1]);
            case "sheet":
                return x.sheet(a[0], a[1], a[2], a[3]);
            case "delay":
                return x.delay();
            case "order":
                return x.order(a[0]);
            case "pass":
                return x.pass(a[0], a[1], a[2]);
            case "cook":
                return x.cook(a[0], a[1]);
            case "steps":
                return x.steps(a[0]);
            case "voyage":
                return x.voyage();
            case "undo":
                return x.undo();
            case "lane":
                return x.lane(a[0]);
            case "strikes":
                return x.strikes();
            case "clears":
                return x.clears();
            case "plan":
                return x.plan(a[0]);
            case "latest":
                return x.latest(a[0]);
            case "lanes":
                return x.lanes(a[0]);
            case "safest":
                return x.safest(a[0]);
            case "late":
                return x.late(a[0]);
            case "comes":
                return x.comes(a[0]);
            case "relay":
                return x.relay(a[0]);
            case "fewest":
                return x.fewest(a[0]);
            case "word":
                return x.word(a[0], a[1]);
            case "survives":
                return x.survives(a[0], a[1]);
            case "lives":
                return x.lives(a[0]);
            case "shares":
                return x.shares(a[0]);
            case "fast":
                return x.fast(a[0]);
            case "seen":
                return x.seen(a[0], a[1]);
            case "forget":
                return x.forget();
            case "ordered":
                return x.ordered();
            case "unsure":
                return x.unsure();
            case "boy":
                return x.boy(a[0], a[1]);
            case "meets":
                return x.meets(a[0]);
            case "knows":
                return x.knows(a[0], a[1]);
            case "mutiny":
                return x.mutiny(a[0], a[1], a[2]);
            case "chance":
                return x.chance(a[0], a[1], a[2]);
            case "voyages":
                return x.voyages(a[0], a[1]);
            case "keep":
                return bit(x.keep(a[0]));
            case "again":
                return bit(x.again(a[0]));
            default:
                throw new IllegalStateException(call);
        }
    }
}
