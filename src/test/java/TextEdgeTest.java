/**
 * Terms 1 and 2 and promises 1 to 12: each sentence that names a boundary case has a test of its own.
 */
public final class TextEdgeTest {
    private static final int NONE = NobodyBeenAft.NONE;
    private static final int LEAST = Integer.MIN_VALUE;
    private static final int MOST = Integer.MAX_VALUE;

    private TextEdgeTest() {
    }

    public static void main(String[] args) {
        ship();
        steps();
        rules();
        ruleFaults();
        rows();
        signs();
        shipFaults();
        rocks();
        rockFaults();
        messes();
        numbers();
        sheets();
        Check.close("TextEdgeTest");
    }

    private static NobodyBeenAft make() {
        return new NobodyBeenAft();
    }

    /** 17 cells, a DELAY of 3 without a rule, 3 posts, one of them a liar. */
    private static NobodyBeenAft liar() {
        NobodyBeenAft x = make();
        Check.ship(x, "17,4,8*,12");
        return x;
    }

    /** An object of which there is something of all: it shows what a call changes. */
    static NobodyBeenAft busy() {
        NobodyBeenAft x = liar();
        Check.rocks(x, "3,4;5,3;9,5");
        Check.messes(x, "50*5;10*9;80*0");
        x.order(1);
        x.steps(1);
        x.order(-1);
        x.pass(2, 5, 0);
        x.seen(2, 4);
        x.keep(0);
        x.late(3);
        return x;
    }

    private static int ship(String text) {
        return Check.ship(make(), text);
    }

    private static int rocks(String text) {
        return Check.rocks(make(), text);
    }

    private static int messes(String text) {
        return Check.messes(make(), text);
    }

    /** DELAY by a rule in the ship of liar(); what rule() answers, if that is not 0. */
    private static int delay(String rule) {
        NobodyBeenAft x = liar();
        int n = Check.rule(x, rule);
        return n == 0 ? x.delay() : n;
    }

    /** 5 behind NOW, if the EXPRESSION is not 0, else 2. */
    private static void holds(String expression, boolean due) {
        Check.is(expression, delay("2+3*(" + expression + ")"), due ? 5 : 2);
    }

    // ---- the ship

    private static void ship() {
        Check.sentence("Term 1", "LONG 2 .. 40, at first 2", () -> {
            Check.is("at first", make().count(0), 2);
            Check.is("1", ship("1"), -1);
            Check.is("2", ship("2"), 0);
            Check.is("40", ship("40"), 0);
            Check.is("41", ship("41"), -2);
        });
        Check.sentence("Term 1", "POSTS 0 .. (at most 10)", () -> {
            Check.is("none", ship("20"), 0);
            Check.is("ten", ship("20,0,1,2,3,4,5,6,7,8,9"), 10);
            Check.is("eleven", ship("20,0,1,2,3,4,5,6,7,8,9,10"), -1 - 22);
        });
        Check.sentence("Term 1", "at unlike CELLS, rising", () -> {
            Check.is("more", ship("20,5,6"), 2);
            Check.is("the same", ship("20,5,5"), -1 - 5);
            Check.is("less", ship("20,5,4"), -1 - 5);
        });
        Check.sentence("Term 1", "CELLS 0 (the bow) .. LONG - 1", () -> {
            Check.is("the bow", ship("20,0"), 1);
            Check.is("the stern", ship("20,19"), 1);
            Check.is("behind the stern", ship("20,20"), -1 - 4);
            Check.is("both of the shortest", ship("2,0,1"), 2);
            Check.is("behind the shortest", ship("2,2"), -1 - 2);
        });
        Check.sentence("Term 1", "a text of at most 43 signs: LONG (1 or 2 digits)", () -> {
            Check.is("one", ship("9"), 0);
            Check.is("two", ship("09"), 0);
            Check.is("three", ship("009"), -1 - 1);
            Check.is("three, 2 .. 40 by two", ship("123"), -1 - 2);
        });
        Check.sentence("Term 1", "a comma and a CELL (1 or 2 digits ..), perhaps * (a LIAR)", () -> {
            NobodyBeenAft x = make();
            Check.is("one, two", Check.ship(x, "30,4*,05,29*"), 3);
            Check.is("a LIAR", x.post(0, 1), 1);
            Check.is("none", x.post(1, 1), 0);
            Check.is("the last", x.post(2, 1), 1);
            Check.is("three", ship("30,004"), -1 - 5);
            Check.is("two *", ship("30,4**"), -1 - 5);
        });
    }

    // ---- steps

    private static void steps() {
        Check.sentence("Term 1", "NOW: STEPS and MILES, at first 0; LANE at first 4; HITS at first 0", () -> {
            Check.is("NOW", make().count(5), 0);
            Check.is("LANE", make().count(6), 4);
            Check.is("HITS", make().count(7), 0);
        });
        Check.sentence("Term 1", "with an odd number of LIARS it is turned round: -1 for 1", () -> {
            String[] ships = {"30,1,2", "30,1*,2", "30,1*,2*", "30,1*,2*,3*",
                "30,1*,2*,3*,4*,5*,6*,7*,8*,9*", "30,1*,2*,3*,4*,5*,6*,7*,8*,9*,10*"};
            for (int i = 0; i < ships.length; i++) {
                for (int v = -1; v <= 1; v++) {
                    NobodyBeenAft x = make();
                    Check.ship(x, ships[i]);
                    x.order(v);
                    Check.is(ships[i] + " " + v, x.way(0, 1), i == 1 || i == 3 || i == 4 ? -v : v);
                }
            }
        });
        Check.sentence("Term 1", "(1) orders that are due then are done, the one given first first", () -> {
            NobodyBeenAft x = north(8);
            x.order(1);
            x.steps(1);
            x.order(-1);
            Check.is("1 beyond 8, then -1", x.steps(11), 7);
            NobodyBeenAft y = north(8);
            y.order(-1);
            y.steps(1);
            y.order(1);
            Check.is("-1, then 1", y.steps(11), 8);
        });
        Check.sentence("Term 1", "given at a STEP and DELAY that are NOW", () -> {
            NobodyBeenAft x = liar();
            x.order(-1);
            Check.is("one STEP too early", x.steps(2), 4);
            Check.is("just then", x.steps(1), 5);
            Check.is("once alone", x.steps(1), 5);
        });
        Check.sentence("Term 1", "LANE is so much more (0 .. 8: beyond it stays)", () -> {
            NobodyBeenAft x = north(8);
            x.order(1);
            Check.is("beyond 8", x.steps(12), 8);
            NobodyBeenAft y = north(0);
            y.order(-1);
            Check.is("beyond 0", y.steps(12), 0);
        });
        Check.sentence("Term 1", "(2) If a ROCK is at MILE NOW in her LANE, HITS are 1 more (for each such)", () -> {
            NobodyBeenAft x = make();
            Check.rocks(x, "1,3;1,5;2,4;3,4;3,4");
            x.steps(1);
            Check.is("in other LANES", x.count(7), 0);
            x.steps(1);
            Check.is("one", x.count(7), 1);
            x.steps(1);
            Check.is("two more", x.count(7), 3);
            x.steps(1);
            Check.is("behind them", x.count(7), 3);
        });
        Check.sentence("Term 1", "(1) goes ahead of (2): she clears a ROCK by an order that is due there", () -> {
            NobodyBeenAft x = make();
            Check.rocks(x, "1,4");
            x.order(1);
            x.steps(1);
            Check.is("HITS", x.count(7), 0);
        });
        Check.sentence("Term 1", "(3) one with less FOOD than it EATS is HUNGRY 1 more, and its FOOD is 0", () -> {
            NobodyBeenAft x = make();
            Check.messes(x, "8*9;9*9;10*9;0*0");
            x.steps(1);
            int[] food = {0, 0, 1, 0};
            int[] hungry = {1, 0, 0, 0};
            for (int i = 0; i < 4; i++) {
                Check.is("FOOD " + i, x.mess(i, 0), food[i]);
                Check.is("HUNGRY " + i, x.mess(i, 2), hungry[i]);
            }
        });
    }

    /** In LANE 0 or 8 at NOW 12, with a DELAY of 12 in that STEP and of 11 in the next. */
    private static NobodyBeenAft north(int lane) {
        NobodyBeenAft x = make();
        for (int i = 0; i < 12; i++) {
            x.order(lane == 8 ? 1 : -1);
            x.steps(1);
        }
        Check.rule(x, "12-n");
        return x;
    }

    // ---- the rule

    private static void rules() {
        Check.sentence("Term 1", "THE RULE (at first none: l/8+1)", () -> {
            int[] longs = {2, 7, 8, 15, 16, 39, 40};
            int[] due = {1, 1, 2, 2, 3, 5, 6};
            for (int i = 0; i < longs.length; i++) {
                NobodyBeenAft x = make();
                Check.ship(x, "" + longs[i]);
                Check.is("LONG " + longs[i], x.delay(), due[i]);
            }
        });
        Check.sentence("Term 1", "< > = bind least (two; 1 or 0; not one behind the other)", () -> {
            holds("1<2", true);
            holds("2<2", false);
            holds("3<2", false);
            holds("1>2", false);
            holds("2>2", false);
            holds("3>2", true);
            holds("1=2", false);
            holds("2=2", true);
            holds("3=2", false);
            holds("5<2+4", true);
            holds("2*3=5+1", true);
            Check.is("1 alone", delay("1+(5>2)"), 2);
            Check.is("least of all", delay("4+5>2"), 1);
            for (String a : new String[] {"<", ">", "="}) {
                for (String b : new String[] {"<", ">", "="}) {
                    Check.is(a + b, delay("1" + a + "2" + b + "3"), -1 - 3);
                }
            }
            Check.is("behind a sum", delay("1<2+3*4>5"), -1 - 7);
            Check.is("behind brackets", delay("1<(2)=3"), -1 - 5);
            Check.is("one in brackets, one without", delay("(1<2)=1"), 1);
            Check.is("the other way round", delay("1=(1<2)"), 1);
            Check.is("one behind the other in brackets", delay("(1<2<3)"), -1 - 4);
            Check.is("two pairs of brackets", delay("6*(1<2)+(2<3)"), 7);
        });
        Check.sentence("Term 1", "then + - (from the left)", () -> {
            Check.is("- -", delay("9-3-2"), 4);
            Check.is("- +", delay("9-3+2"), 8);
            Check.is("+ ahead of *", delay("2+3*3"), 11);
            Check.is("- ahead of /", delay("9-6/3"), 7);
        });
        Check.sentence("Term 1", "then * / (from the left)", () -> {
            Check.is("/ /", delay("12/2/3"), 2);
            Check.is("/ *", delay("12/4*3"), 9);
            Check.is("* /", delay("5*3/2"), 7);
        });
        Check.sentence("Term 1", "by 0: 0", () -> {
            Check.is("7 by 0", delay("7/0+4"), 4);
            Check.is("0 by 0", delay("0/0+3"), 3);
            Check.is("by what is 0", delay("7/(x-1)+4"), 4);
        });
        Check.sentence("Term 1", "cut to 0", () -> {
            Check.is("7 by 2", delay("7/2"), 3);
            Check.is("-7 by 2", delay("-7/2+9"), 6);
            Check.is("7 by -2", delay("7/-2+9"), 6);
            Check.is("-7 by -2", delay("-7/-2"), 3);
        });
        Check.sentence("Term 1", "then - ahead of a thing (any many)", () -> {
            Check.is("one", delay("-5+9"), 4);
            Check.is("two", delay("--5"), 5);
            Check.is("three", delay("---5+9"), 4);
            Check.is("behind -", delay("3--4"), 7);
            Check.is("behind *", delay("2*-3+9"), 3);
            Check.is("of brackets", delay("-(1-5)"), 4);
            Check.is("of l", delay("20+-l"), 3);
            Check.is("38 of them, 39 signs", delay("-".repeat(38) + "5"), 5);
            Check.is("39 of them, 40 signs", delay("-".repeat(39) + "5"), 1);
            Check.is("binds more than *", delay("-2*3+9"), 3);
        });
        values();
    }

    private static void values() {
        Check.sentence("Term 1", "of an order: l LONG, p how many POSTS, x how many of them are LIARS", () -> {
            Check.is("l", delay("l/2"), 8);
            Check.is("p", delay("p"), 3);
            Check.is("x", delay("x+1"), 2);
            NobodyBeenAft x = make();
            Check.rule(x, "l+p+x");
            Check.is("no POSTS", x.delay(), 2);
        });
        Check.sentence("Term 1", "n the STEP in which it is given, by 12 (rest)", () -> {
            NobodyBeenAft x = make();
            Check.rule(x, "12-n");
            int[] due = {12, 11, 10, 9, 8, 7, 6, 5, 4, 3, 2, 1, 12, 11};
            for (int i = 0; i < due.length; i++) {
                Check.is("at " + i, x.delay(), due[i]);
                x.steps(1);
            }
        });
        Check.sentence("Term 1", "as ints", () -> {
            holds("512*512*512*16<0", true);
            holds("512*512*512*16-1>0", true);
            holds("512*512*512*32=0", true);
            holds("512*512*512*16/-1<0", true);
            holds("-(512*512*512*16)<0", true);
        });
        Check.sentence("Term 1", "put to 1 .. 12", () -> {
            String[] rules = {"-999", "-1", "0", "1", "2", "11", "12", "13", "999"};
            int[] due = {1, 1, 1, 1, 2, 11, 12, 12, 12};
            for (int i = 0; i < rules.length; i++) {
                Check.is(rules[i], delay(rules[i]), due[i]);
            }
        });
    }

    private static void ruleFaults() {
        Check.sentence("Term 1", "a NUMBER of 1 to 3 digits", () -> {
            Check.is("one", delay("7"), 7);
            Check.is("two", delay("07"), 7);
            Check.is("three", delay("007"), 7);
            Check.is("four", delay("0007"), -1 - 3);
        });
        Check.sentence("Term 1", "an EXPRESSION in ( ) (at most 4 in one another)", () -> {
            Check.is("four", delay("((((5))))"), 5);
            Check.is("five", delay("(((((5)))))"), -1 - 4);
            Check.is("four and four", delay("((((5))))+((((2))))"), 7);
            Check.is("five behind others", delay("(1)+(1)+(1)+(1)+(5)"), 9);
            Check.is("five with others between", delay("(1+(1+(1+(1+(1)))))"), -1 - 12);
            Check.is("none", delay("()"), -1 - 1);
        });
        Check.sentence("7", "THE RULE (an empty one: none): 0", () -> {
            NobodyBeenAft x = liar();
            Check.rule(x, "9");
            Check.is("an empty one", Check.rule(x, ""), 0);
            Check.is("none", x.delay(), 3);
        });
        Check.sentence("7", "-1 - p: the sign at p can't stand there", () -> {
            String[] wrong = {"a", "+1", "<1", ")", "/1", "=", "2a", "ll", "l8", "2(", "2+)", "(1+2))", "1 ", "1<*2"};
            int[] at = {0, 0, 0, 0, 0, 0, 1, 1, 1, 1, 2, 5, 1, 2};
            for (int i = 0; i < wrong.length; i++) {
                Check.is(wrong[i], delay(wrong[i]), -1 - at[i]);
            }
        });
        Check.sentence("7", "(its end, if it ends too early", () -> {
            String[] early = {"1+", "-", "(", "(1", "((1)", "1<", "--", "1*-", "(2+"};
            for (String text : early) {
                Check.is(text, delay(text), -1 - text.length());
            }
        });
        Check.sentence("7", "40, if it has more and the first 40 could go on or end)", () -> {
            String sum = "1" + "+1".repeat(19);
            Check.is("40 signs", delay("-" + sum), 12);
            Check.is("41 signs, 40 that end", delay("-" + sum + "1"), -1 - 40);
            Check.is("41 signs, 40 that go on", delay(sum + "+1"), -1 - 40);
            Check.is("41 signs, open brackets", delay("(-" + sum), -1 - 40);
            Check.is("what stands at 40 is not looked at", delay("-" + sum + "z"), -1 - 40);
            Check.is("a fourth digit at 40", delay("-1" + "+1".repeat(17) + "+1111"), -1 - 40);
            Check.is("a fault at 39", delay(sum + "z1"), -1 - 39);
            Check.is("80 signs", delay(sum + "+" + sum + "1"), -1 - 40);
        });
        Check.sentence("7", "THE RULE is the one that was told last, whatever was refused ahead of it", () -> {
            NobodyBeenAft x = liar();
            x.steps(3);
            String[] rules = {"4+0", "((((1+", "((((2))))+3", "1<2<3", "6-(1<2)", "-", "0*7+9", "(1<2=3", "1<2", "8"};
            int[] due = {4, 0, 5, 0, 5, 0, 9, 0, 1, 8};
            for (int i = 0; i < rules.length; i++) {
                Check.is(rules[i] + " is refused", Check.rule(x, rules[i]) < 0, due[i] == 0);
                Check.is("behind " + rules[i], x.delay(), due[i] == 0 ? due[i - 1] : due[i]);
            }
        });
        Check.sentence("7", "THE RULE is the one that was told last: long ones, too", () -> {
            NobodyBeenAft x = liar();
            for (int i = 0; i < 5; i++) {
                String rule = "1" + "+0".repeat(18) + "+" + i;
                Check.is(rule, Check.rule(x, rule), 0);
                Check.is("DELAY by " + rule, x.delay(), 1 + i);
            }
        });
        Check.sentence("7", "refused: THE RULE stays", () -> {
            NobodyBeenAft x = busy();
            Check.rule(x, "n+4");
            Check.staysButText("7+", x, "7+", NobodyBeenAft::rule, -1 - 2);
            Check.staysButText("41 signs", x, "7" + "-".repeat(40), NobodyBeenAft::rule, -1 - 40);
        });
    }

    // ---- rows

    private static void rows() {
        Check.sentence("Term 2", "Fractions are told in lowest terms", () -> {
            NobodyBeenAft x = make();
            x.word(1, 5);
            Check.row("5 by 10", x, 1, 2);
            x.knows(1, 5);
            Check.row("25 by 100", x, 1, 4);
            x.chance(2, 4, 0);
            Check.row("36 by 100", x, 9, 25);
            x.word(15, 0);
            Check.row("10 to the 15th twice", x, 1, 1);
        });
        Check.sentence("Term 2", "(0 by 1)", () -> {
            NobodyBeenAft x = make();
            x.word(3, 10);
            Check.row("word", x, 0, 1);
            x.knows(3, 0);
            Check.row("knows", x, 0, 1);
            x.chance(3, 10, 0);
            Check.row("chance", x, 0, 1);
        });
        Check.sentence("Term 2", "Refused calls answer NONE, or false, and change nothing", () -> {
            refused("sign, 80 are there", x -> {
                for (int i = 1; i < 20; i++) {
                    x.sign(0);
                }
            }, x -> x.sign(1), NONE);
            refused("end", x -> { }, x -> x.end(5) ? 1 : 0, 0);
            refused("undo", x -> x.again(0), NobodyBeenAft::undo, NONE);
            refused("ordered", NobodyBeenAft::forget, NobodyBeenAft::ordered, NONE);
            refused("keep", x -> { }, x -> x.keep(3) ? 1 : 0, 0);
            refused("again", x -> { }, x -> x.again(1) ? 1 : 0, 0);
            Many all = TextEdgeTest::nones;
            for (int i = 0; i < 28; i++) {
                int which = i;
                refused("call " + i, x -> { }, x -> all.answer(x, which), NONE);
            }
        });
        Check.sentence("Term 2", "The ROW stays with NONE and with each number below 0 that tells why", () -> {
            refused("sheet n below 0", x -> { }, x -> x.sheet(0, -1, 1, 1), -2);
            refused("order again", x -> { }, x -> x.order(0), -2);
            refused("pass not so much", x -> { }, x -> x.pass(1, 99, 1), -2);
            refused("pass too much", x -> x.cook(0, 99), x -> x.pass(1, 1, 0), -3);
            refused("strikes", x -> x.steps(20), NobodyBeenAft::strikes, -2);
            refused("plan", x -> Check.rocks(x, "2,4"), x -> x.plan(1), -2);
            refused("latest", x -> Check.rocks(x, "2,4"), x -> x.latest(1), -2);
            refused("relay", x -> Check.ship(x, "5"), x -> x.relay(4), -2);
            refused("survives", x -> { }, x -> x.survives(10, 1), -2);
            refused("shares", x -> { }, x -> x.shares(99), -2);
            refused("seen", x -> { }, x -> x.seen(2, 5), -2);
            refused("unsure", NobodyBeenAft::forget, NobodyBeenAft::unsure, -2);
            refused("count", x -> { }, x -> x.count(13), -100);
        });
        Check.sentence("Term 2", "nothing but THE TEXT, which a call that reads it empties", () -> {
            Check.staysButText("ship", busy(), "5,9", NobodyBeenAft::ship, -1 - 2);
            Check.staysButText("rocks", busy(), "1,1;2,9", NobodyBeenAft::rocks, -1 - 6);
            Check.staysButText("messes", busy(), "1*1;2*x", NobodyBeenAft::messes, -1 - 6);
            Check.staysButText("rule", busy(), "1+", NobodyBeenAft::rule, -1 - 2);
            Check.staysButText("voyage", busy(), "1>0", NobodyBeenAft::voyage, -1 - 2);
            String[] good = {"5,3", "5,3", "5*3", "3", "3"};
            for (int i = 0; i < 5; i++) {
                NobodyBeenAft x = make();
                Check.say(x, good[i]);
                Check.is("read " + i, i == 0 ? x.ship() : i == 1 ? x.rocks() : i == 2 ? x.messes()
                    : i == 3 ? x.rule() : x.voyage(), i == 3 ? 0 : 1);
                Check.is("empty " + i, x.count(12), 0);
            }
        });
    }

    private interface Before {
        void make(NobodyBeenAft x);
    }

    private interface Many {
        long answer(NobodyBeenAft x, int which);
    }

    private static void refused(String what, Before before, Check.CallOn call, long due) {
        NobodyBeenAft x = busy();
        before.make(x);
        x.late(3);
        x.sign('7' << 24);
        Check.stays(what, x, call, due);
    }

    /** Calls whose numbers are others than the document names. */
    private static long nones(NobodyBeenAft x, int which) {
        switch (which) {
            case 0: return x.sheet(4, 1, 1, 1);
            case 1: return x.order(2);
            case 2: return x.pass(0, 1, 2);
            case 3: return x.cook(0, 100);
            case 4: return x.steps(61);
            case 5: return x.lane(61);
            case 6: return x.plan(31);
            case 7: return x.latest(31);
            case 8: return x.lanes(31);
            case 9: return x.safest(1000);
            case 10: return x.late(31);
            case 11: return x.comes(13);
            case 12: return x.relay(11);
            case 13: return x.fewest(40);
            case 14: return x.word(2, 1);
            case 15: return x.survives(11, 1);
            case 16: return x.lives(4);
            case 17: return x.shares(100);
            case 18: return x.fast(100);
            case 19: return x.seen(25, 0);
            case 20: return x.boy(5, 10);
            case 21: return x.meets(10);
            case 22: return x.knows(13, 1);
            case 23: return x.mutiny(1, 1, 19);
            case 24: return x.chance(13, 1, 1);
            case 25: return x.voyages(1, 61);
            case 26: return x.pass(0, 1, 0);
            default: return x.seen(3, 9);
        }
    }

    // ---- signs

    private static void signs() {
        Check.sentence("1", "LONG 2, no POSTS, no ROCKS, no MESSES", () -> {
            int[] due = {2, 0, 0, 0, 0, 0, 4, 0, 0, 0, 0, 0, 0};
            for (int i = 0; i < due.length; i++) {
                Check.is("count(" + i + ")", make().count(i), due[i]);
            }
        });
        Check.sentence("2", "Four signs come behind THE TEXT, of v the highest byte first", () -> {
            NobodyBeenAft x = make();
            Check.is("four", x.sign('9' << 24 | ',' << 16 | '1' << 8 | '*'), 4);
            Check.is("eight", x.sign(',' << 24 | '7' << 16 | '*' << 8 | 200), 8);
            x.end(7);
            Check.is("they are read", x.ship(), 2);
            Check.is("the first", x.post(0, 0), 1);
            Check.is("the second", x.post(1, 0), 7);
        });
        Check.sentence("2", "signs are bytes: those above 127, too", () -> {
            NobodyBeenAft x = make();
            Check.is("all bits", x.sign(-1), 4);
            Check.is("no sign of a rule", x.rule(), -1);
            x.sign('7' << 24 | 0xff << 16);
            x.end(2);
            Check.is("behind 7", x.rule(), -1 - 1);
        });
        Check.sentence("2", "Refused: there would be more than 80", () -> {
            NobodyBeenAft x = make();
            for (int i = 1; i <= 20; i++) {
                Check.is("sign " + i, x.sign(0), 4 * i);
            }
            Check.stays("84", x, y -> y.sign(0), NONE);
            for (int i = 79; i > 76; i--) {
                x.end(i);
                Check.stays(i + 4 + "", x, y -> y.sign(0), NONE);
            }
            x.end(76);
            Check.is("80", x.sign(0), 80);
        });
        Check.sentence("3", "THE TEXT has its first n signs alone: true", () -> {
            NobodyBeenAft x = make();
            Check.say(x, "7+8");
            Check.is("all", x.end(3), true);
            Check.is("three", x.count(12), 3);
            Check.is("one", x.end(1), true);
            Check.is("one is left", x.count(12), 1);
            x.rule();
            Check.is("the first", x.delay(), 7);
        });
        Check.sentence("3", "its first 0 signs: none", () -> {
            NobodyBeenAft x = make();
            Check.is("of none", x.end(0), true);
            x.sign(5);
            Check.is("of four", x.end(0), true);
            Check.is("none are left", x.count(12), 0);
        });
        Check.sentence("3", "false if it has not so many", () -> {
            Check.stays("1 of none", make(), x -> x.end(1) ? 1 : 0, 0);
            NobodyBeenAft x = make();
            x.sign(5);
            Check.stays("5 of 4", x, y -> y.end(5) ? 1 : 0, 0);
            Check.stays("most of 4", x, y -> y.end(MOST) ? 1 : 0, 0);
        });
        Check.sentence("3", "or n is below 0", () -> {
            NobodyBeenAft x = make();
            x.sign(5);
            Check.stays("-1", x, y -> y.end(-1) ? 1 : 0, 0);
            Check.stays("least", x, y -> y.end(LEAST) ? 1 : 0, 0);
        });
    }

    // ---- texts of ships

    private static void shipFaults() {
        Check.sentence("4", "THE TEXT is THE SHIP: how many POSTS", () -> {
            NobodyBeenAft x = liar();
            Check.is("none", Check.ship(x, "9"), 0);
            Check.is("no POSTS", x.count(1), 0);
            Check.is("no LIARS", x.count(2), 0);
            Check.is("ten", Check.ship(x, "40,10*,11*,12*,13*,14*,15*,16*,17*,18*,19*"), 10);
            Check.is("ten LIARS", x.count(2), 10);
        });
        Check.sentence("4", "orders under way come as they were given", () -> {
            NobodyBeenAft x = liar();
            x.order(1);
            Check.ship(x, "3");
            Check.rule(x, "9");
            Check.is("when", x.way(0, 0), 3);
            Check.is("what", x.way(0, 1), -1);
            Check.is("LANE", x.steps(3), 3);
        });
        Check.sentence("4", "-1 - p: the sign at p can't stand there", () -> {
            String[] wrong = {"x", ",", "*", "9x", "9*", "9;", "9,x", "9,,", "9,*", "9,1x", "9,1;2", "9,1*x", "9,1*2"};
            int[] at = {0, 0, 0, 1, 1, 1, 2, 2, 2, 3, 3, 4, 4};
            for (int i = 0; i < wrong.length; i++) {
                Check.is(wrong[i], ship(wrong[i]), -1 - at[i]);
            }
        });
        Check.sentence("4", "(its end, if it ends too early", () -> {
            Check.is("an empty one", ship(""), -1);
            Check.is("a comma", ship("9,"), -1 - 2);
            Check.is("a comma behind a LIAR", ship("9,1*,"), -1 - 5);
        });
        Check.sentence("4", "LONG that is not 2 .. 40 .. at its last digit", () -> {
            String[] wrong = {"0", "1", "00", "01", "41", "50", "99", "1,0", "0x", "41x", "410"};
            int[] at = {0, 0, 1, 1, 1, 1, 1, 0, 0, 1, 1};
            for (int i = 0; i < wrong.length; i++) {
                Check.is(wrong[i], ship(wrong[i]), -1 - at[i]);
            }
        });
        Check.sentence("4", "a CELL that can't be: at its last digit", () -> {
            String[] wrong = {"9,9", "9,09", "9,10", "9,99", "9,5,5", "9,5,4", "9,5*,0", "9,5,05", "9,100", "40,39,40"};
            int[] at = {2, 3, 3, 3, 4, 4, 5, 5, 3, 7};
            for (int i = 0; i < wrong.length; i++) {
                Check.is(wrong[i], ship(wrong[i]), -1 - at[i]);
            }
        });
        Check.sentence("4", "the comma of an eleventh POST", () -> {
            String ten = "20,0,1,2,3,4,5,6,7,8,9";
            Check.is("a comma", ship(ten + ","), -1 - 22);
            Check.is("a POST", ship(ten + ",19"), -1 - 22);
            Check.is("behind a LIAR", ship(ten + "*,19"), -1 - 23);
        });
        Check.sentence("4", "43, if it has more and the first 43 could go on or end)", () -> {
            // ten POSTS of two digits that lie are 42 signs: no 43 signs could go on or end
            String most = "40,10*,11*,12*,13*,14*,15*,16*,17*,18*,19*";
            Check.is("42 signs", ship(most), 10);
            Check.is("43 signs", ship(most + ","), -1 - 42);
            Check.is("44 signs", ship(most + ",2"), -1 - 42);
            Check.is("80 signs", ship(most + "x".repeat(38)), -1 - 42);
            Check.is("80 signs, a fault ahead", ship("4x" + "1".repeat(78)), -1 - 1);
        });
        Check.sentence("4", "refused: THE SHIP stays", () -> {
            String[] wrong = {"", "x", "1", "9,", "9,1,1", "9,1*,2*,3*x"};
            int[] at = {0, 0, 0, 2, 4, 10};
            for (int i = 0; i < wrong.length; i++) {
                Check.staysButText(wrong[i], busy(), wrong[i], NobodyBeenAft::ship, -1 - at[i]);
            }
        });
    }

    // ---- texts of rocks

    private static void rocks() {
        Check.sentence("Term 1", "ROCKS 0 .. (at most 16)", () -> {
            NobodyBeenAft x = make();
            Check.is("16", Check.rocks(x, "1,1;".repeat(15) + "1,1"), 16);
            Check.is("17", Check.rocks(x, "1,1"), -1);
            Check.is("16 are there", x.count(3), 16);
        });
        Check.sentence("Term 1", "a MILE 1 .. 999, a LANE 0 .. 8", () -> {
            NobodyBeenAft x = make();
            Check.is("least", Check.rocks(x, "1,0"), 1);
            Check.is("most", Check.rocks(x, "999,8"), 1);
            Check.is("1", x.rock(0, 0), 1);
            Check.is("0", x.rock(0, 1), 0);
            Check.is("999", x.rock(1, 0), 999);
            Check.is("8", x.rock(1, 1), 8);
            Check.is("MILE 0", rocks("0,1"), -1);
            Check.is("MILE 1000", rocks("1000,1"), -1 - 3);
            Check.is("LANE 9", rocks("1,9"), -1 - 2);
        });
        Check.sentence("Term 1", "a digit 0 .. 8 (LANE)", () -> {
            for (int i = 0; i < 256; i++) {
                Check.is("sign " + i, rocks("1," + (char) i), i >= '0' && i <= '8' ? 1 : -1 - 2);
            }
        });
        Check.sentence("Term 1", "LINES with ; between, each one more", () -> {
            NobodyBeenAft x = make();
            Check.rocks(x, "5,5;5,5");
            Check.rocks(x, "5,5");
            Check.is("the same thrice", x.count(3), 3);
        });
        Check.sentence("5", "THE TEXT tells of ROCKS (an empty one: nothing): how many LINES", () -> {
            Check.staysButText("an empty one", busy(), "", NobodyBeenAft::rocks, 0);
            Check.is("one", rocks("5,5"), 1);
            Check.is("two", rocks("5,5;6,6"), 2);
            NobodyBeenAft x = make();
            Check.rocks(x, "1,1;".repeat(15) + "1,1");
            Check.staysButText("an empty one, no room", x, "", NobodyBeenAft::rocks, 0);
        });
    }

    private static void rockFaults() {
        Check.sentence("5", "-1 - p: the sign at p can't stand there", () -> {
            String[] wrong = {"x", ",1", ";", "5;3", "5x", "5,x", "5,9", "5,;", "5,3x", "5,3,", "5,33", "5,3;x", "5,3;;",
                "5,3;7,x"};
            int[] at = {0, 0, 0, 1, 1, 2, 2, 2, 3, 3, 3, 4, 4, 6};
            for (int i = 0; i < wrong.length; i++) {
                Check.is(wrong[i], rocks(wrong[i]), -1 - at[i]);
            }
        });
        Check.sentence("5", "(its end, if it ends too early", () -> {
            for (String text : new String[] {"5", "55", "555", "5,", "5,3;", "5,3;7", "5,3;7,"}) {
                Check.is(text, rocks(text), -1 - text.length());
            }
        });
        Check.sentence("5", "MILE 0: at its last digit", () -> {
            String[] wrong = {"0,1", "00,1", "000,1", "5,3;0,1", "5,3;000,1", "0000,1", "0;1"};
            int[] at = {0, 1, 2, 4, 6, 2, 0};
            for (int i = 0; i < wrong.length; i++) {
                Check.is(wrong[i], rocks(wrong[i]), -1 - at[i]);
            }
            Check.is("noughts ahead of another", rocks("001,1;010,1;100,1"), 3);
        });
        Check.sentence("5", "the first sign of a LINE for which there is no room", () -> {
            NobodyBeenAft x = make();
            Check.rocks(x, "1,1;".repeat(13) + "1,1");
            Check.is("two have room, the third not", Check.rocks(x, "1,1;2,2;3,3"), -1 - 8);
            Check.is("a LINE that is wrong itself", Check.rocks(x, "1,1;2,2;xx"), -1 - 8);
            Check.is("a fault ahead", Check.rocks(x, "1,1;2,9;3,3"), -1 - 6);
            Check.is("two", Check.rocks(x, "1,1;2,2"), 2);
            Check.is("the first", Check.rocks(x, "1,1;2,2"), -1);
            Check.is("17 at once", rocks("1,1;".repeat(16) + "1,1"), -1 - 64);
        });
        Check.sentence("5", "76, if it has more and the first 76 could go on or end)", () -> {
            String lines = "100,1;".repeat(12);
            Check.is("76 signs", rocks(lines + "10,1"), 13);
            Check.is("77, 76 that end", rocks(lines + "10,1;"), -1 - 76);
            Check.is("77, what stands at 76 is not looked at", rocks(lines + "10,1x"), -1 - 76);
            Check.is("80", rocks(lines + "10,1;1,1"), -1 - 76);
            Check.is("76 that end with ;", rocks(lines + "1,1;1,1"), -1 - 76);
            String digit = "100,1;".repeat(11) + "10,1;1,1;";
            Check.is("76 that end with a digit", rocks(digit + "100,1"), -1 - 76);
            Check.is("76 that end with a nought", rocks(digit + "001,1"), -1 - 76);
            Check.is("76 that end with MILE 0", rocks("100,1;".repeat(10) + "1,1;1,1;10,1;000,1"), -1 - 75);
            Check.is("76 that end with a comma", rocks(lines + "100,1"), -1 - 76);
            Check.is("a fault at 75", rocks(lines + "10,9;"), -1 - 75);
            Check.is("a fault ahead", rocks("5x" + lines + "1,1"), -1 - 1);
        });
        Check.sentence("5", "Nothing of it comes, if a LINE can't", () -> {
            String[] wrong = {"1,1;2,2;3,9", "1,1;0,1", "1,1;", "1,1;2,2x", "1,1;".repeat(13) + "1,1"};
            int[] due = {-1 - 10, -1 - 4, -1 - 4, -1 - 7, -1 - 52};
            for (int i = 0; i < wrong.length; i++) {
                Check.staysButText(wrong[i], busy(), wrong[i], NobodyBeenAft::rocks, due[i]);
            }
            Check.staysButText("too long", busy(), "100,1;".repeat(12) + "10,1;", NobodyBeenAft::rocks, -1 - 76);
        });
    }

    // ---- texts of messes

    private static void messes() {
        Check.sentence("Term 1", "MESSES 0 .. (at most 8)", () -> {
            NobodyBeenAft x = make();
            Check.is("8", Check.messes(x, "1*1;".repeat(7) + "1*1"), 8);
            Check.is("9", Check.messes(x, "1*1"), -1);
            Check.is("8 are there", x.count(4), 8);
        });
        Check.sentence("Term 1", "FOOD 0 .. 99, EATS 0 .. 9, HUNGRY (STEPS, at first 0)", () -> {
            NobodyBeenAft x = make();
            Check.is("both", Check.messes(x, "0*0;99*9;00*1"), 3);
            int[][] due = {{0, 0, 0}, {99, 9, 0}, {0, 1, 0}};
            for (int i = 0; i < 3; i++) {
                for (int k = 0; k < 3; k++) {
                    Check.is("MESS " + i + " what " + k, x.mess(i, k), due[i][k]);
                }
            }
            Check.is("FOOD 100", messes("100*1"), -1 - 2);
            Check.is("EATS 10", messes("1*10"), -1 - 3);
        });
        Check.sentence("Term 1", "each one more behind the others", () -> {
            NobodyBeenAft x = make();
            Check.messes(x, "1*9;2*2");
            x.steps(2);
            Check.messes(x, "5*5");
            Check.is("the first is as it was", x.mess(0, 2), 2);
            Check.is("the last", x.mess(2, 0), 5);
            Check.is("the last is not HUNGRY", x.mess(2, 2), 0);
        });
        Check.sentence("6", "THE TEXT tells of MESSES (an empty one: nothing): how many LINES", () -> {
            Check.staysButText("an empty one", busy(), "", NobodyBeenAft::messes, 0);
            Check.is("one", messes("5*5"), 1);
            Check.is("two", messes("5*5;6*6"), 2);
            NobodyBeenAft x = make();
            Check.messes(x, "1*1;".repeat(7) + "1*1");
            Check.staysButText("an empty one, no room", x, "", NobodyBeenAft::messes, 0);
        });
        Check.sentence("6", "-1 - p: likewise: the sign at p can't stand there", () -> {
            String[] wrong = {"x", "*1", "5,3", "5x", "123*4", "5*x", "5*;", "5*33", "5*3*", "5*3;x", "5*3;;", "5*3;7*x"};
            int[] at = {0, 0, 1, 1, 2, 2, 2, 3, 3, 4, 4, 6};
            for (int i = 0; i < wrong.length; i++) {
                Check.is(wrong[i], messes(wrong[i]), -1 - at[i]);
            }
        });
        Check.sentence("6", "likewise: its end, if it ends too early", () -> {
            for (String text : new String[] {"5", "55", "5*", "5*3;", "5*3;7", "5*3;7*"}) {
                Check.is(text, messes(text), -1 - text.length());
            }
        });
        Check.sentence("6", "likewise: the first sign of a LINE for which there is no room", () -> {
            NobodyBeenAft x = make();
            Check.messes(x, "1*1;".repeat(5) + "1*1");
            Check.is("two have room, the third not", Check.messes(x, "1*1;2*2;3*3"), -1 - 8);
            Check.is("a LINE that is wrong itself", Check.messes(x, "1*1;2*2;xx"), -1 - 8);
            Check.is("a fault ahead", Check.messes(x, "1*1;2*x;3*3"), -1 - 6);
            Check.is("two", Check.messes(x, "1*1;2*2"), 2);
            Check.is("the first", Check.messes(x, "1*1;2*2"), -1);
            Check.is("nine at once", messes("1*1;".repeat(8) + "1*1"), -1 - 32);
        });
        Check.sentence("6", "likewise (39 signs)", () -> {
            String lines = "10*1;".repeat(7);
            Check.is("39 signs", messes(lines + "10*1"), 8);
            Check.is("40, 39 that end", messes(lines + "10*1;"), -1 - 39);
            Check.is("40, what stands at 39 is not looked at", messes(lines + "10*1x"), -1 - 39);
            Check.is("79", messes(lines + "10*1;" + lines + "10*1"), -1 - 39);
            Check.is("a fault at 38", messes(lines + "10*x1"), -1 - 38);
            NobodyBeenAft x = make();
            Check.messes(x, "1*1");
            Check.is("no room for the eighth", Check.messes(x, lines + "10*1;"), -1 - 35);
        });
        Check.sentence("6", "likewise: nothing of it comes, if a LINE can't", () -> {
            String[] wrong = {"1*1;2*2;3*x", "1*1;", "1*1;2*2x", "1*1;1*1;1*1;1*1;1*1;1*1"};
            int[] due = {-1 - 10, -1 - 4, -1 - 7, -1 - 20};
            for (int i = 0; i < wrong.length; i++) {
                Check.staysButText(wrong[i], busy(), wrong[i], NobodyBeenAft::messes, due[i]);
            }
        });
    }

    // ---- what is told by numbers

    private static void numbers() {
        Check.sentence("8", "NoSuchElementException: none such (POST)", () -> {
            Check.none("no POSTS", () -> make().post(0, 0));
            Check.is("the last", liar().post(2, 0), 12);
            for (int i : new int[] {LEAST, -1, 3, 10, MOST}) {
                Check.none("POST " + i, () -> liar().post(i, 0));
            }
            NobodyBeenAft x = liar();
            Check.ship(x, "9,1");
            Check.none("one of a ship that was", () -> x.post(1, 0));
        });
        Check.sentence("8", "NoSuchElementException: another what", () -> {
            Check.is("CELL", liar().post(1, 0), 8);
            Check.is("1 if a LIAR", liar().post(1, 1), 1);
            Check.is("0 if not", liar().post(0, 1), 0);
            for (int i : new int[] {LEAST, -1, 2, MOST}) {
                Check.none("what " + i, () -> liar().post(1, i));
            }
        });
        Check.sentence("9", "NoSuchElementException: likewise (none such)", () -> {
            Check.none("no ROCKS", () -> make().rock(0, 0));
            Check.is("the last", busy().rock(2, 0), 9);
            for (int i : new int[] {LEAST, -1, 3, 16, MOST}) {
                Check.none("ROCK " + i, () -> busy().rock(i, 0));
            }
        });
        Check.sentence("9", "NoSuchElementException: likewise (another what)", () -> {
            Check.is("MILE", busy().rock(1, 0), 5);
            Check.is("LANE", busy().rock(1, 1), 3);
            for (int i : new int[] {LEAST, -1, 2, MOST}) {
                Check.none("what " + i, () -> busy().rock(1, i));
            }
        });
        Check.sentence("10", "NoSuchElementException: likewise (none such)", () -> {
            Check.none("no MESSES", () -> make().mess(0, 0));
            Check.is("the last", busy().mess(2, 0), 75);
            for (int i : new int[] {LEAST, -1, 3, 8, MOST}) {
                Check.none("MESS " + i, () -> busy().mess(i, 0));
            }
        });
        Check.sentence("10", "NoSuchElementException: likewise (another what)", () -> {
            NobodyBeenAft x = busy();
            x.steps(1);
            Check.is("FOOD", x.mess(1, 0), 0);
            Check.is("EATS", x.mess(1, 1), 9);
            Check.is("HUNGRY", x.mess(1, 2), 1);
            for (int i : new int[] {LEAST, -1, 3, MOST}) {
                Check.none("what " + i, () -> busy().mess(1, i));
            }
        });
        Check.sentence("11", "an order under way (by when they are due, of like ones by when they were given)", () -> {
            NobodyBeenAft x = make();
            Check.rule(x, "9");
            x.order(1);
            x.steps(1);
            Check.rule(x, "8");
            x.order(-1);
            x.steps(1);
            Check.rule(x, "6");
            x.order(0);
            int[] when = {6, 7, 7};
            int[] what = {0, 1, -1};
            for (int i = 0; i < 3; i++) {
                Check.is("in how many STEPS " + i, x.way(i, 0), when[i]);
                Check.is("what it is " + i, x.way(i, 1), what[i]);
            }
        });
        Check.sentence("11", "an order under way: one that is done is none", () -> {
            NobodyBeenAft x = make();
            Check.rule(x, "5");
            x.order(-1);
            x.steps(1);
            x.order(1);
            x.steps(1);
            x.order(0);
            x.steps(3);
            Check.is("two are left", x.count(8), 2);
            int[] when = {1, 2};
            int[] what = {1, 0};
            for (int i = 0; i < 2; i++) {
                Check.is("in how many STEPS " + i, x.way(i, 0), when[i]);
                Check.is("what it is " + i, x.way(i, 1), what[i]);
            }
            Check.is("the second is done", x.steps(1), 4);
            Check.is("one is left", x.count(8), 1);
            Check.is("the third", x.way(0, 1), 0);
        });
        Check.sentence("11", "NoSuchElementException: likewise (none such)", () -> {
            Check.none("none under way", () -> make().way(0, 0));
            Check.is("the last", busy().way(1, 0), 3);
            for (int i : new int[] {LEAST, -1, 2, 12, MOST}) {
                Check.none("order " + i, () -> busy().way(i, 0));
            }
            NobodyBeenAft x = make();
            x.order(1);
            x.steps(1);
            Check.none("one that is done", () -> x.way(0, 0));
        });
        Check.sentence("11", "NoSuchElementException: likewise (another what)", () -> {
            Check.is("in how many STEPS", busy().way(0, 0), 2);
            Check.is("what it is at the helm", busy().way(0, 1), -1);
            for (int i : new int[] {LEAST, -1, 2, MOST}) {
                Check.none("what " + i, () -> busy().way(0, i));
            }
        });
    }

    // ---- sheets

    private static NobodyBeenAft eaters() {
        NobodyBeenAft x = make();
        Check.messes(x, "1*1;2*2;3*3;4*4");
        return x;
    }

    private static void eat(String what, NobodyBeenAft x, int... due) {
        for (int i = 0; i < due.length; i++) {
            Check.is(what + " EATS " + i, x.mess(i, 1), due[i]);
        }
    }

    private static void sheets() {
        Check.sentence("12", "bytes (kind 0): the lowest bits, with their sign; put to 0 .. 9", () -> {
            NobodyBeenAft x = eaters();
            Check.is("126 .. 129", x.sheet(0, 4, 126, 1), 18);
            eat("126 .. 129", x, 9, 9, 0, 0);
            Check.is("255 ..", x.sheet(0, 4, 255, 1), 3);
            eat("255 ..", x, 0, 0, 1, 2);
            Check.is("-257 ..", x.sheet(0, 4, -255, 1), 10);
            eat("-255 ..", x, 1, 2, 3, 4);
        });
        Check.sentence("12", "shorts (1): the lowest bits, with their sign; put to 0 .. 9", () -> {
            NobodyBeenAft x = eaters();
            Check.is("32766 ..", x.sheet(1, 4, 32766, 1), 18);
            eat("32766 ..", x, 9, 9, 0, 0);
            Check.is("65535 ..", x.sheet(1, 4, 65535, 1), 3);
            eat("65535 ..", x, 0, 0, 1, 2);
            Check.is("128", x.sheet(1, 1, 128, 0), 9);
        });
        Check.sentence("12", "ints (2): put to 0 .. 9", () -> {
            NobodyBeenAft x = eaters();
            Check.is("8 ..", x.sheet(2, 4, 8, 1), 35);
            eat("8 ..", x, 8, 9, 9, 9);
            Check.is("-1 ..", x.sheet(2, 4, -1, 1), 3);
            eat("-1 ..", x, 0, 0, 1, 2);
            Check.is("65536", x.sheet(2, 1, 65536, 0), 9);
        });
        Check.sentence("12", "entries f, f + step, .. go round as ints", () -> {
            NobodyBeenAft x = eaters();
            Check.is("most", x.sheet(2, 4, MOST, 1), 9);
            eat("most", x, 9, 0, 0, 0);
            Check.is("most, most", x.sheet(2, 3, MOST, MOST), 18);
            eat("most, most", x, 9, 0, 9, 0);
            Check.is("round to 5", x.sheet(2, 3, 5, LEAST), 10);
            eat("round to 5", x, 5, 0, 5, 0);
        });
        Check.sentence("12", "those behind it have 0: the sum of all", () -> {
            NobodyBeenAft x = eaters();
            Check.is("two", x.sheet(2, 2, 5, 1), 11);
            eat("two", x, 5, 6, 0, 0);
            Check.is("none", x.sheet(2, 0, 5, 1), 0);
            eat("none", x, 0, 0, 0, 0);
            Check.is("all", x.sheet(2, 4, 5, 1), 26);
            Check.is("as many as there may be", x.sheet(2, 8, 5, 0), 20);
        });
        Check.sentence("12", "-2: n below 0 (of kinds 0 .. 2; nothing changes)", () -> {
            for (int kind = 0; kind <= 2; kind++) {
                int k = kind;
                Check.stays("kind " + k, eaters(), x -> x.sheet(k, -1, 5, 1), -2);
                Check.stays("kind " + k + ", least", eaters(), x -> x.sheet(k, LEAST, 5, 1), -2);
                Check.is("kind " + k + ", n 0", eaters().sheet(k, 0, 5, 1), 0);
            }
            Check.is("kind 3", eaters().sheet(3, -1, 5, 1), -3);
        });
        Check.sentence("12", "-3: missing (all 0)", () -> {
            NobodyBeenAft x = eaters();
            Check.is("missing", x.sheet(3, 4, 5, 1), -3);
            eat("missing", x, 0, 0, 0, 0);
            Check.is("no MESSES", make().sheet(3, 0, 0, 0), -3);
        });
        Check.sentence("12", "NONE: another kind, n above 8 (these first)", () -> {
            for (int kind : new int[] {LEAST, -1, 4, MOST}) {
                Check.stays("kind " + kind, eaters(), x -> x.sheet(kind, 2, 5, 1), NONE);
                Check.stays("ahead of n below 0, kind " + kind, eaters(), x -> x.sheet(kind, -1, 5, 1), NONE);
            }
            for (int kind = 0; kind <= 3; kind++) {
                int k = kind;
                Check.stays("n 9, kind " + k, eaters(), x -> x.sheet(k, 9, 5, 1), NONE);
                Check.stays("n most, kind " + k, eaters(), x -> x.sheet(k, MOST, 5, 1), NONE);
            }
            Check.is("n 8", eaters().sheet(0, 8, 1, 0), 4);
        });
    }
}
