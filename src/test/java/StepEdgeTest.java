/** Promises 13 to 28: each sentence that names a boundary case has a test of its own. */
public final class StepEdgeTest {
    private static final int NONE = NobodyBeenAft.NONE;
    private static final int LEAST = Integer.MIN_VALUE;
    private static final int MOST = Integer.MAX_VALUE;

    private StepEdgeTest() {
    }

    public static void main(String[] args) {
        orders();
        passing();
        steps();
        voyages();
        undone();
        undoForgets();
        laneAndStrikes();
        clears();
        plan();
        latest();
        lanes();
        safest();
        lateAndComes();
        Check.close("StepEdgeTest");
    }

    private static NobodyBeenAft make() {
        return new NobodyBeenAft();
    }

    private static NobodyBeenAft busy() {
        return TextEdgeTest.busy();
    }

    private static NobodyBeenAft withRule(String rule) {
        NobodyBeenAft x = make();
        Check.rule(x, rule);
        return x;
    }

    private static NobodyBeenAft withRocks(String rocks) {
        NobodyBeenAft x = make();
        Check.rocks(x, rocks);
        return x;
    }

    private static NobodyBeenAft withMesses(String messes) {
        NobodyBeenAft x = make();
        Check.messes(x, messes);
        return x;
    }

    /** 12 orders under way, one of them given at NOW (11). */
    private static NobodyBeenAft full() {
        NobodyBeenAft x = withRule("12");
        x.order(0);
        for (int i = 1; i < 12; i++) {
            x.steps(1);
            x.order(0);
        }
        return x;
    }

    private static void others(Check.CallOn... calls) {
        for (int i = 0; i < calls.length; i++) {
            Check.stays("other number " + i, busy(), calls[i], NONE);
        }
    }

    // ---- orders

    private static void orders() {
        Check.sentence("13", "DELAY of an order that would be given now", () -> {
            NobodyBeenAft x = withRule("n+2");
            Check.is("at 0", x.delay(), 2);
            x.steps(11);
            Check.is("at 11", x.delay(), 12);
            x.steps(1);
            Check.is("at 12", x.delay(), 2);
        });
        Check.sentence("14", "An order (-1 .. 1) is given: in how many STEPS it is done", () -> {
            for (int v = -1; v <= 1; v++) {
                NobodyBeenAft x = withRule("7");
                Check.is("" + v, x.order(v), 7);
                Check.is("what " + v, x.way(0, 1), v);
                Check.is("count " + v, x.count(8), 1);
            }
        });
        Check.sentence("14", "-2: one was given at NOW already", () -> {
            Check.stays("any", busy(), x -> x.order(1), -2);
            Check.stays("none, too", busy(), x -> x.order(0), -2);
            NobodyBeenAft x = make();
            x.order(0);
            Check.is("behind 0", x.order(1), -2);
            x.steps(0);
            Check.is("behind no STEP", x.order(1), -2);
            x.undo();
            x.undo();
            Check.is("it is undone", x.order(1), 1);
            x.keep(0);
            x.steps(1);
            Check.is("in the next STEP", x.order(1), 1);
            x.again(0);
            Check.is("again at that STEP", x.order(1), -2);
            NobodyBeenAft y = make();
            y.keep(0);
            y.order(1);
            y.again(0);
            Check.is("kept ahead of it", y.order(1), 1);
        });
        Check.sentence("14", "-3: 12 are under way", () -> {
            // 12 are 12 STEPS, NOW among them: so -2 is always ahead of it
            NobodyBeenAft x = full();
            Check.is("12", x.count(8), 12);
            Check.stays("12 and given now", x, y -> y.order(1), -2);
            x.steps(1);
            Check.is("11", x.count(8), 11);
            Check.is("the next", x.order(1), 12);
            Check.is("12 again", x.count(8), 12);
        });
        Check.sentence("14", "NONE: others", () -> {
            others(x -> x.order(2), x -> x.order(-2), x -> x.order(MOST), x -> x.order(LEAST));
            Check.stays("none was given", make(), x -> x.order(2), NONE);
            Check.stays("none was given", make(), x -> x.order(-2), NONE);
        });
    }

    // ---- food

    private static void passing() {
        Check.sentence("15", "n FOOD (1 .. 99) is passed: FOOD that it has left", () -> {
            NobodyBeenAft x = withMesses("99*0;0*0");
            Check.is("1", x.pass(0, 1, 1), 98);
            Check.is("back", x.pass(1, 1, 0), 0);
            Check.is("99", x.pass(0, 99, 1), 0);
            Check.is("it came", x.mess(1, 0), 99);
            others(y -> y.pass(0, 0, 1), y -> y.pass(0, 100, 1), y -> y.pass(0, -1, 1), y -> y.pass(0, LEAST, 1),
                y -> y.pass(0, MOST, 1));
        });
        Check.sentence("15", "to the next one aft (aft 1) or forward (0)", () -> {
            NobodyBeenAft x = withMesses("9*0;9*0;9*0");
            x.pass(1, 4, 1);
            Check.is("aft", x.mess(2, 0), 13);
            x.pass(1, 2, 0);
            Check.is("forward", x.mess(0, 0), 11);
            others(y -> y.pass(1, 1, 2), y -> y.pass(1, 1, -1), y -> y.pass(1, 1, MOST), y -> y.pass(1, 1, LEAST));
        });
        Check.sentence("15", "-2: it has not so much", () -> {
            NobodyBeenAft x = withMesses("9*0;0*0");
            Check.stays("one more", x, y -> y.pass(0, 10, 1), -2);
            Check.stays("of nothing", x, y -> y.pass(1, 1, 0), -2);
            Check.is("all", x.pass(0, 9, 1), 0);
            Check.stays("nor has the other room", withMesses("9*0;99*0"), y -> y.pass(0, 10, 1), -2);
        });
        Check.sentence("15", "-3: the other would have more than 99", () -> {
            NobodyBeenAft x = withMesses("50*0;90*0;50*0");
            Check.stays("100 aft", x, y -> y.pass(0, 10, 1), -3);
            Check.stays("100 forward", x, y -> y.pass(2, 10, 0), -3);
            Check.is("99 aft", x.pass(0, 9, 1), 41);
        });
        Check.sentence("15", "NONE: none such, no such next one", () -> {
            others(x -> x.pass(-1, 1, 1), x -> x.pass(3, 1, 1), x -> x.pass(3, 1, 0), x -> x.pass(MOST, 1, 0),
                x -> x.pass(LEAST, 1, 1), x -> x.pass(2, 1, 1), x -> x.pass(0, 1, 0));
            Check.is("no MESSES", make().pass(0, 1, 1), NONE);
            Check.is("no next one ahead of not so much", withMesses("0*0").pass(0, 1, 1), NONE);
        });
        Check.sentence("16", "A MESS has FOOD n (0 .. 99) by the cooks: what it had", () -> {
            NobodyBeenAft x = withMesses("5*1;6*2");
            Check.is("0", x.cook(1, 0), 6);
            Check.is("99", x.cook(1, 99), 0);
            Check.is("the same", x.cook(1, 99), 99);
            Check.is("it has", x.mess(1, 0), 99);
            Check.is("the other", x.mess(0, 0), 5);
        });
        Check.sentence("16", "Refused: others", () -> {
            others(x -> x.cook(0, -1), x -> x.cook(0, 100), x -> x.cook(0, MOST), x -> x.cook(0, LEAST),
                x -> x.cook(-1, 5), x -> x.cook(3, 5), x -> x.cook(MOST, 5), x -> x.cook(LEAST, 5));
            Check.is("no MESSES", make().cook(0, 5), NONE);
        });
    }

    // ---- steps

    private static void steps() {
        Check.sentence("17", "n STEPS (0 .. 60): LANE", () -> {
            NobodyBeenAft x = make();
            x.order(-1);
            Check.is("0", x.steps(0), 4);
            Check.is("no STEP was done", x.count(5), 0);
            Check.is("60", x.steps(60), 3);
            Check.is("60 were done", x.count(5), 60);
        });
        Check.sentence("17", "the ROW: HITS in these, STEPS that were HUNGRY in these", () -> {
            NobodyBeenAft x = withMesses("4*2;0*1;0*0");
            Check.rocks(x, "1,4;3,4;3,4;4,4");
            x.steps(1);
            Check.row("one", x, 1, 1);
            x.steps(2);
            Check.row("two more", x, 2, 3);
            x.steps(0);
            Check.row("none", x, 0, 0);
            x.steps(60);
            Check.row("60", x, 1, 120);
        });
        Check.sentence("17", "of 16 ROCKS and 8 MESSES, as many as there may be", () -> {
            NobodyBeenAft x = withMesses("1*1;1*1;1*1;1*1;1*1;1*1;1*1;1*1");
            Check.rocks(x, "2,4;".repeat(16).substring(0, 63));
            Check.is("LANE", x.steps(2), 4);
            Check.row("all of them", x, 16, 8);
            Check.is("the last MESS", x.mess(7, 2), 1);
        });
        Check.sentence("17", "Refused: another n", () ->
            others(x -> x.steps(-1), x -> x.steps(61), x -> x.steps(MOST), x -> x.steps(LEAST)));
    }

    // ---- voyages

    private static void voyages() {
        Check.sentence("18", "THE TEXT tells A VOYAGE (an empty one: nothing)", () -> {
            NobodyBeenAft x = make();
            x.relay(0);
            Check.is("an empty one", Check.voyage(x, ""), 0);
            Check.row("an empty one", x, 0, 0);
            Check.is("nothing to be undone", x.count(10), 0);
        });
        Check.sentence("18", "<, =, > (an order -1, 0, 1)", () -> {
            String[] orders = {"<", "=", ">"};
            for (int i = 0; i < 3; i++) {
                NobodyBeenAft x = make();
                Check.is(orders[i], Check.voyage(x, orders[i]), 1);
                Check.is("what is " + orders[i], x.way(0, 1), i - 1);
            }
        });
        Check.sentence("18", "a digit 1 .. 9 (so many STEPS)", () -> {
            for (int i = 1; i <= 9; i++) {
                NobodyBeenAft x = make();
                Check.is("" + i, Check.voyage(x, "" + i), 1);
                Check.is("STEPS of " + i, x.count(5), i);
            }
            Check.is("0", Check.voyage(make(), "0"), -1);
            Check.is("10", Check.voyage(make(), "10"), -1 - 1);
        });
        Check.sentence("18", "p and a digit (that MESS passes 1 FOOD aft)", () -> {
            NobodyBeenAft x = withMesses("5*0;5*0;5*0");
            Check.is("two", Check.voyage(x, "p1p0"), 2);
            int[] food = {4, 5, 6};
            for (int i = 0; i < 3; i++) {
                Check.is("FOOD " + i, x.mess(i, 0), food[i]);
            }
            Check.is("one digit alone", Check.voyage(x, "p01"), 2);
            Check.is("the other is a STEP", x.count(5), 1);
        });
        Check.sentence("18", "they are done one by one, till one is refused: how many were done", () -> {
            String[] texts = {"<<1", "1>2=>3", "p2", "p9", "1p1", "p01p0", "p3"};
            int[] done = {1, 4, 0, 0, 1, 2, 0};
            int[] now = {0, 3, 0, 0, 1, 1, 0};
            for (int i = 0; i < texts.length; i++) {
                NobodyBeenAft x = withMesses("1*0;0*0;5*0");
                Check.is(texts[i], Check.voyage(x, texts[i]), done[i]);
                Check.row(texts[i], x, 1, 0);
                Check.is("NOW behind " + texts[i], x.count(5), now[i]);
                Check.is("one to be undone behind " + texts[i], x.count(10), done[i] > 0 ? 1 : 0);
            }
            NobodyBeenAft x = withMesses("5*0;99*0");
            Check.is("the other would have 100", Check.voyage(x, "1p01"), 1);
            NobodyBeenAft y = make();
            Check.is("all are done", Check.voyage(y, "<1>1=1"), 6);
            Check.row("all are done", y, 0, 0);
        });
        Check.sentence("18", "HITS in these", () -> {
            NobodyBeenAft x = withRocks("1,4;2,5;2,5;4,5;6,5");
            x.steps(1);
            Check.voyage(x, ">31>>9");
            Check.row("till one is refused", x, 1, 3);
        });
        voyageFaults();
    }

    private static void voyageFaults() {
        Check.sentence("18", "-1 - p: the sign at p can't stand there; nothing is done then", () -> {
            String[] wrong = {"0", "x", ">0", "1,", "p<", "pp0", "1p1 ", "p0p:", "1<>p0q"};
            int[] at = {0, 0, 1, 1, 1, 1, 3, 3, 5};
            for (int i = 0; i < wrong.length; i++) {
                Check.staysButText(wrong[i], busy(), wrong[i], NobodyBeenAft::voyage, -1 - at[i]);
            }
        });
        Check.sentence("18", "(its end, if it ends too early", () -> {
            Check.staysButText("p", busy(), "p", NobodyBeenAft::voyage, -1 - 1);
            Check.staysButText("1p1p", busy(), "1p1p", NobodyBeenAft::voyage, -1 - 4);
        });
        Check.sentence("18", "60, if it has more and the first 60 could go on or end)", () -> {
            String most = "1".repeat(60);
            Check.is("60 signs", Check.voyage(make(), most), 60);
            Check.staysButText("61", busy(), most + "1", NobodyBeenAft::voyage, -1 - 60);
            Check.staysButText("80", busy(), most + "1".repeat(20), NobodyBeenAft::voyage, -1 - 60);
            Check.staysButText("at 60 not looked at", busy(), most + "x", NobodyBeenAft::voyage, -1 - 60);
            Check.staysButText("60 that go on", busy(), most.substring(1) + "p1", NobodyBeenAft::voyage, -1 - 60);
            Check.staysButText("60 too early", busy(), most.substring(1) + "p", NobodyBeenAft::voyage, -1 - 60);
            Check.staysButText("a fault at 59", busy(), most.substring(1) + "01", NobodyBeenAft::voyage, -1 - 59);
        });
    }

    // ---- undone

    private static void undone() {
        Check.sentence("19", "The latest order(), pass(), cook(), steps() or voyage() is undone", () -> {
            NobodyBeenAft x = withMesses("9*1;2*3");
            Check.rocks(x, "1,4;2,5");
            x.order(1);
            x.steps(1);
            x.pass(0, 3, 1);
            x.cook(1, 50);
            Check.voyage(x, "<2p0");
            Check.is("voyage", x.undo(), 4);
            looks("voyage", x, 1, 5, 0, 0, 5, 50, 1);
            Check.is("cook", x.undo(), 3);
            looks("cook", x, 1, 5, 0, 0, 5, 3, 1);
            Check.is("pass", x.undo(), 2);
            looks("pass", x, 1, 5, 0, 0, 8, 0, 1);
            Check.is("steps", x.undo(), 1);
            looks("steps", x, 0, 4, 0, 1, 9, 2, 0);
            Check.is("order", x.undo(), 0);
            looks("order", x, 0, 4, 0, 0, 9, 2, 0);
        });
        Check.sentence("19", "HITS, HUNGRY are as ahead of it", () -> {
            NobodyBeenAft x = withMesses("0*1");
            Check.rocks(x, "1,4;2,4");
            x.steps(1);
            x.steps(3);
            Check.is("HITS", x.count(7), 2);
            x.undo();
            looks("undone", x, 1, 4, 1, 0, 0, 0, 1);
        });
        Check.sentence("19", "(of 15 that are kept, the latest ones", () -> {
            NobodyBeenAft x = make();
            for (int i = 1; i <= 15; i++) {
                x.steps(1);
                Check.is("kept behind " + i, x.count(10), i);
            }
            x.steps(1);
            Check.is("the sixteenth", x.count(10), 15);
            for (int i = 14; i >= 0; i--) {
                Check.is("left", x.undo(), i);
                Check.is("NOW", x.count(5), i + 1);
            }
            Check.is("the first is forgotten", x.undo(), NONE);
            Check.is("NOW at last", x.count(5), 1);
        });
        Check.sentence("19", "such as were done", () -> {
            NobodyBeenAft x = busy();
            x.order(0);
            x.order(5);
            x.pass(0, 99, 1);
            x.pass(0, 0, 1);
            x.cook(0, 100);
            x.steps(61);
            Check.voyage(x, "0");
            Check.is("none of the refused ones", x.count(10), 4);
            x.steps(0);
            Check.is("no STEPS are done as well", x.count(10), 5);
        });
        Check.sentence("19", "voyage() of which one sign was done, as one)", () -> {
            NobodyBeenAft x = make();
            Check.voyage(x, ">1<1");
            Check.is("four signs", x.count(10), 1);
            Check.voyage(x, "1p0");
            Check.is("one sign, then one that is refused", x.count(10), 2);
            Check.voyage(x, "p01");
            Check.is("one that is refused", x.count(10), 2);
            Check.voyage(x, "");
            Check.is("none", x.count(10), 2);
            x.undo();
            Check.is("NOW", x.count(5), 2);
            x.undo();
            Check.is("NOW at first", x.count(5), 0);
        });
        Check.sentence("19", "how many are left that can be. Refused: none", () -> {
            Check.stays("at first", make(), NobodyBeenAft::undo, NONE);
            NobodyBeenAft x = make();
            x.steps(1);
            x.steps(1);
            Check.is("one is left", x.undo(), 1);
            Check.is("none is left", x.undo(), 0);
            Check.stays("no more", x, NobodyBeenAft::undo, NONE);
        });
    }

    private static void looks(String what, NobodyBeenAft x, int now, int lane, int hits, int orders, int food,
        int foodAft, int hungry) {
        Check.is(what + " NOW", x.count(5), now);
        Check.is(what + " LANE", x.count(6), lane);
        Check.is(what + " HITS", x.count(7), hits);
        Check.is(what + " orders", x.count(8), orders);
        Check.is(what + " FOOD 0", x.mess(0, 0), food);
        if (x.count(4) > 1) {
            Check.is(what + " FOOD 1", x.mess(1, 0), foodAft);
        }
        Check.is(what + " HUNGRY", x.mess(x.count(4) - 1, 2), hungry);
    }

    private static void undoForgets() {
        Check.sentence("19", "(messes() and again() forget them", () -> {
            NobodyBeenAft x = busy();
            Check.is("four", x.count(10), 4);
            Check.messes(x, "1*1");
            Check.is("MESSES came", x.count(10), 0);
            Check.is("none left", x.undo(), NONE);
            NobodyBeenAft y = busy();
            y.again(0);
            Check.is("it is again", y.count(10), 0);
            Check.is("none left then", y.undo(), NONE);
        });
        Check.sentence("19", "if they are not refused", () -> {
            NobodyBeenAft x = busy();
            Check.messes(x, "1");
            Check.messes(x, "1*1;1*1;1*1;1*1;1*1;1*1");
            Check.is("messes()", x.count(10), 4);
            x.again(1);
            x.again(-1);
            x.again(3);
            Check.is("again()", x.count(10), 4);
        });
        Check.sentence("19", "an empty messes() does not)", () -> {
            NobodyBeenAft x = busy();
            Check.is("empty", Check.messes(x, ""), 0);
            Check.is("still four", x.count(10), 4);
        });
    }

    // ---- where she will be

    private static void laneAndStrikes() {
        Check.sentence("20", "Her LANE in n STEPS (0 .. 60), by orders that are under way alone", () -> {
            NobodyBeenAft x = withRule("5");
            x.order(1);
            Check.is("0", x.lane(0), 4);
            Check.is("4", x.lane(4), 4);
            Check.is("5", x.lane(5), 5);
            Check.is("60", x.lane(60), 5);
            Check.is("nothing changes", x.count(5), 0);
        });
        Check.sentence("20", "the ROW: HITS in these", () -> {
            NobodyBeenAft x = withRocks("1,4;2,4;62,4;63,4;3,5");
            x.steps(2);
            x.lane(0);
            Check.row("0: not at NOW", x, 0);
            x.lane(59);
            Check.row("one ahead of it", x, 0);
            x.lane(60);
            Check.row("the last STEP", x, 1);
            x.order(1);
            x.lane(1);
            Check.row("by an order under way", x, 1);
        });
        Check.sentence("20", "HITS in these: of 16 ROCKS", () -> {
            NobodyBeenAft x = withRocks("1,4;2,4;2,4;3,5;3,4;4,3;" + "5,4;".repeat(9) + "6,4");
            long[] hits = {0, 1, 3, 4, 4, 13, 14, 14};
            for (int i = 0; i < hits.length; i++) {
                x.lane(i);
                Check.row("" + i, x, hits[i]);
            }
            Check.is("the first", x.strikes(), 1);
            Check.is("hers is not safest", x.safest(6), 2);
            Check.row("hers is not safest", x, 0, 14);
        });
        Check.sentence("20", "NONE: another n", () ->
            others(x -> x.lane(-1), x -> x.lane(61), x -> x.lane(MOST), x -> x.lane(LEAST)));
        Check.sentence("21", "In how many STEPS (1 .. 999) she hits first", () -> {
            Check.is("1", withRocks("1,4").strikes(), 1);
            Check.is("999", withRocks("999,4").strikes(), 999);
            NobodyBeenAft x = withRocks("1,4;3,5;4,4");
            x.steps(1);
            Check.is("not at NOW", x.strikes(), 3);
            Check.row("the ROCK", x, 2);
        });
        Check.sentence("21", "the ROW: the ROCK (the first such)", () -> {
            NobodyBeenAft x = withRocks("7,4;5,3;5,4;5,4");
            Check.is("5", x.strikes(), 5);
            Check.row("the third", x, 2);
        });
        Check.sentence("21", "-2: none", () -> {
            Check.stays("no ROCKS", make(), NobodyBeenAft::strikes, -2);
            Check.stays("in other LANES", withRocks("5,3;6,5"), NobodyBeenAft::strikes, -2);
            NobodyBeenAft x = withRocks("5,4");
            x.steps(5);
            Check.stays("at NOW", x, NobodyBeenAft::strikes, -2);
            x.steps(1);
            Check.stays("behind", x, NobodyBeenAft::strikes, -2);
            NobodyBeenAft y = withRocks("5,4");
            y.order(1);
            Check.stays("an order is under way", y, NobodyBeenAft::strikes, -2);
        });
    }

    private static void clears() {
        Check.sentence("22", "ROCKS (bits) that are ahead (MILE above NOW)", () -> {
            NobodyBeenAft x = withRocks("1,4;2,4;3,4;999,4;2,5");
            x.steps(2);
            Check.is("two", x.clears(), 0b01100);
            Check.row("none that she can't", x, 0);
            Check.is("no ROCKS", make().clears(), 0);
        });
        Check.sentence("22", "all of 16", () -> {
            NobodyBeenAft x = withRocks("9,4;".repeat(15) + "999,4");
            Check.is("all can be", x.clears(), 0xffff);
            Check.rule(x, "12");
            Check.is("one can be", x.clears(), 0x8000);
            Check.row("15 can't", x, 0x7fff);
        });
        Check.sentence("22", "one in each STEP from NOW on, but not at NOW, if one was given", () -> {
            NobodyBeenAft x = withRule("3");
            Check.rocks(x, "2,4;3,4;4,4");
            Check.is("at NOW, too", x.clears(), 0b110);
            Check.row("too near", x, 0b001);
            x.order(0);
            Check.is("not at NOW", x.clears(), 0b100);
            Check.row("too near then", x, 0b011);
        });
        Check.sentence("22", "as many as one likes under way", () -> {
            NobodyBeenAft x = full();
            Check.rocks(x, "23,4;24,4");
            Check.is("12 are", x.clears(), 0b10);
            Check.row("given at NOW", x, 0b01);
        });
        Check.sentence("22", "besides those under way", () -> {
            NobodyBeenAft x = withRule("2");
            x.order(1);
            Check.rocks(x, "1,5;2,4;2,5;3,5");
            Check.is("it moves her", x.clears(), 0b1011);
            Check.row("it moves her there", x, 0b0100);
        });
        Check.sentence("22", "each ROCK by itself", () -> {
            NobodyBeenAft x = withRocks("1,3;1,4;1,5");
            Check.is("all", x.clears(), 0b111);
            Check.row("none can't", x, 0);
        });
        Check.sentence("22", "in another LANE: at the edge there is one alone", () -> {
            NobodyBeenAft x = withRule("1");
            for (int i = 0; i < 4; i++) {
                x.order(-1);
                x.steps(1);
            }
            Check.rule(x, "2");
            Check.rocks(x, "5,0;6,0");
            Check.is("LANE 0", x.clears(), 0b10);
            Check.row("LANE 0", x, 0b01);
        });
    }

    private static void plan() {
        Check.sentence("23", "the next n STEPS (1 .. 30): the ROW: the orders in these n STEPS (0 for none)", () -> {
            NobodyBeenAft x = withRocks("1,4;2,3;30,3");
            Check.is("1", x.plan(1), 1);
            Check.row("1", x, -1);
            Check.is("2", x.plan(2), 1);
            Check.row("2", x, 1, 0);
            Check.is("29", x.plan(29), 1);
            Check.is("29 numbers", x.count(11), 29);
            Check.is("30", x.plan(30), 1);
            Check.is("30 numbers", x.count(11), 30);
            Check.is("none", make().plan(30), 0);
        });
        Check.sentence("23", "(as clears(): not at NOW, if one was given)", () -> {
            NobodyBeenAft x = withRocks("2,4");
            x.order(0);
            Check.is("in the next", x.plan(2), 1);
            Check.row("in the next", x, 0, -1);
        });
        Check.sentence("23", "in STEPS NOW .. NOW and n less 1", () -> {
            NobodyBeenAft x = withRocks("30,4");
            Check.is("at the last STEP of 30", x.plan(30), 1);
            Check.is("the first that is given", x.row(0), -1);
            Check.rocks(x, "29,3;29,5;28,3;28,5;29,2;29,6;29,1;29,7;29,0;29,8");
            Check.is("given in STEP 29", x.plan(30), 1);
            Check.is("none in STEP 28", x.row(28), 0);
            Check.is("the last one", x.row(29), -1);
        });
        Check.sentence("23", "the orders, as they are given (LIARS turn them round)", () -> {
            String[] ships = {"9,1,2", "9,1*,2", "9,1*,2*", "9,1*,2*,3*"};
            for (int i = 0; i < ships.length; i++) {
                NobodyBeenAft x = withRocks("2,4;2,5");
                Check.ship(x, ships[i]);
                Check.rule(x, "1");
                Check.is(ships[i], x.plan(2), 1);
                Check.row(ships[i], x, i % 2 == 0 ? -1 : 0, i % 2 == 0 ? 0 : 1);
            }
        });
        Check.sentence("23", "besides those under way: at LANE 0 and 8, too", () -> {
            NobodyBeenAft x = edge(-1);
            Check.rocks(x, "6,1;7,0");
            Check.is("at 0", x.plan(2), 1);
            Check.row("at 0", x, 0, 1);
            Check.rocks(x, "8,1;9,0");
            Check.is("on at 0", x.plan(4), 2);
            Check.row("on at 0", x, 0, 1, 1, 0);
            NobodyBeenAft y = edge(1);
            Check.rocks(y, "6,7;7,8");
            Check.is("at 8", y.plan(2), 1);
            Check.row("at 8", y, 0, -1);
            Check.rocks(y, "8,7;9,8");
            Check.is("on at 8", y.plan(4), 2);
            Check.row("on at 8", y, 0, -1, -1, 0);
            y.steps(2);
            Check.is("at another NOW", y.plan(2), 1);
            Check.row("at another NOW", y, 0, -1);
            y.steps(2);
            Check.is("ROCKS that are behind", y.plan(4), 0);
        });
        Check.sentence("23", "besides those under way: amid the sea", () -> {
            for (int v = -1; v <= 1; v++) {
                NobodyBeenAft x = underWay(v);
                int there = 4 + v;
                Check.rocks(x, "4," + (there == 4 ? 5 : 4));
                Check.is("clear by " + v, x.plan(1), 0);
                Check.rocks(x, "4," + there);
                Check.is("hit by " + v, x.plan(1), -2);
                NobodyBeenAft y = underWay(v);
                Check.rocks(y, "5," + there + ";5," + (there - 1));
                Check.is("one besides " + v, y.plan(3), 1);
                Check.row("one besides " + v, y, 1, 0, 0);
                Check.is("the last besides " + v, y.latest(3), 0);
            }
        });
        Check.sentence("23", "besides those under way: near LANES 0 and 8", () -> {
            int[][] due = {{0, 1}, {1, 1}, {1, -1}, {2, -1}, {6, 1}, {7, 1}, {7, -1}, {8, -1}};
            for (int[] a : due) {
                int there = a[0] + a[1];
                NobodyBeenAft x = inLane(a[0]);
                x.order(a[1]);
                x.steps(1);
                Check.is("from " + a[0] + " by " + a[1], x.plan(1), 0);
                Check.is("LANES from " + a[0] + " by " + a[1], x.lanes(1), 1 << there);
                Check.rocks(x, "12," + there);
                Check.is("a ROCK from " + a[0] + " by " + a[1], x.plan(1), -2);
                Check.is("no LANE from " + a[0] + " by " + a[1], x.lanes(1), 0);
                Check.is("not cleared from " + a[0] + " by " + a[1], x.clears(), 0);
            }
        });
        Check.sentence("23", "The fewest orders that are -1 or 1", () -> {
            NobodyBeenAft x = withRocks("2,4;2,3;2,5;3,6;3,7");
            Check.is("two aft", x.plan(3), 2);
            Check.row("two aft", x, -1, -1, 0);
            Check.rocks(x, "1,3;4,5;4,6;4,7");
            Check.is("four", x.plan(4), 4);
            Check.row("four", x, 1, 1, -1, -1);
        });
        Check.sentence("23", "of as few the least row", () -> {
            NobodyBeenAft x = withRocks("3,4");
            Check.is("one", x.plan(3), 1);
            Check.row("the first, -1", x, -1, 0, 0);
            Check.rocks(x, "1,3;3,3");
            Check.is("one still", x.plan(3), 1);
            Check.row("the last, 1", x, 0, 0, 1);
            Check.rocks(x, "2,4");
            Check.is("one by the second", x.plan(3), 1);
            Check.row("the second, 1", x, 0, 1, 0);
        });
        Check.sentence("23", "-2: she can't", () -> {
            Check.stays("all LANES that she can be in", withRocks("1,3;1,4;1,5"), x -> x.plan(1), -2);
            NobodyBeenAft x = withRocks("1,4");
            x.order(0);
            x.keep(0);
            Check.rule(x, "2");
            Check.is("at NOW one was given", x.plan(1), -2);
            NobodyBeenAft y = withRule("2");
            Check.rocks(y, "1,4");
            Check.stays("too late", y, z -> z.plan(1), -2);
        });
        Check.sentence("23", "NONE: another n", () ->
            others(x -> x.plan(0), x -> x.plan(31), x -> x.plan(-1), x -> x.plan(MOST), x -> x.plan(LEAST)));
    }

    /** In LANE 4 at NOW 3, with an order on under way for STEP 4, and a DELAY of 2. */
    private static NobodyBeenAft underWay(int v) {
        NobodyBeenAft x = withRule("2");
        x.steps(2);
        x.order(v);
        x.steps(1);
        return x;
    }

    /** In a LANE at NOW 10, with a DELAY of 2. */
    private static NobodyBeenAft inLane(int lane) {
        NobodyBeenAft x = make();
        for (int i = 4; i != lane; i += lane < 4 ? -1 : 1) {
            x.order(lane < 4 ? -1 : 1);
            x.steps(1);
        }
        x.steps(10 - x.count(5));
        Check.rule(x, "2");
        return x;
    }

    /** In LANE 0 (by -1) or 8 at NOW 5, with an order on under way for STEP 6, given ahead of NOW. */
    private static NobodyBeenAft edge(int v) {
        NobodyBeenAft x = make();
        for (int i = 0; i < 4; i++) {
            x.order(v);
            x.steps(1);
        }
        Check.rule(x, "2");
        x.order(v);
        x.steps(1);
        Check.rule(x, "1");
        return x;
    }

    private static void latest() {
        Check.sentence("24", "The last STEP from now (0: at NOW .. n - 1)", () -> {
            Check.is("nothing in the way, 1", make().latest(1), 0);
            Check.is("nothing in the way, 30", make().latest(30), 29);
            NobodyBeenAft x = withRule("5");
            Check.rocks(x, "5,4");
            Check.is("at NOW", x.latest(5), 0);
            Check.is("ahead of it", x.latest(4), 3);
            Check.is("the last that is done", withRocks("30,4").latest(30), 29);
        });
        Check.sentence("24", "from which on orders are enough (none ahead of it)", () -> {
            NobodyBeenAft x = withRocks("9,4;9,3;9,5");
            Check.is("two are needed", x.latest(9), 7);
            Check.rocks(x, "9,2;9,6");
            Check.is("three are", x.latest(9), 6);
        });
        Check.sentence("24", "-2: she can't", () -> {
            Check.stays("all LANES that she can be in", withRocks("1,3;1,4;1,5"), x -> x.latest(1), -2);
            NobodyBeenAft x = withRocks("1,4");
            x.order(0);
            Check.is("that one was none", x.latest(1), -2);
            NobodyBeenAft y = withRocks("1,4");
            y.order(1);
            Check.is("that one was enough", y.latest(1), 0);
        });
        Check.sentence("24", "NONE: another n", () ->
            others(x -> x.latest(0), x -> x.latest(31), x -> x.latest(-1), x -> x.latest(MOST),
                x -> x.latest(LEAST)));
    }

    private static void lanes() {
        Check.sentence("25", "LANES (bits) in which she can be in n STEPS (0 .. 30); the ROW: how many", () -> {
            NobodyBeenAft x = make();
            Check.is("0", x.lanes(0), 16);
            Check.row("0", x, 1);
            Check.is("4", x.lanes(4), 511);
            Check.row("4", x, 9);
            Check.rule(x, "12");
            Check.is("11", x.lanes(11), 16);
            Check.is("12", x.lanes(12), 0b000111000);
            Check.is("30", x.lanes(30), 511);
        });
        Check.sentence("25", "without a HIT in these", () -> {
            NobodyBeenAft x = withRocks("2,4;2,3;2,5");
            Check.is("1", x.lanes(1), 0b000111000);
            Check.is("2", x.lanes(2), 0b001000100);
            Check.rocks(x, "2,2;2,6");
            Check.is("none", x.lanes(2), 0);
            Check.row("none", x, 0);
            Check.is("none behind", x.lanes(30), 0);
            x.steps(2);
            Check.is("not at NOW", x.lanes(0), 16);
        });
        Check.sentence("25", "besides those under way: at LANE 0 and 8, too", () -> {
            NobodyBeenAft x = edge(-1);
            Check.is("0 in one STEP", x.lanes(1), 0b000000011);
            Check.is("0 in two STEPS", x.lanes(2), 0b000000111);
            NobodyBeenAft y = edge(1);
            Check.is("8 in one STEP", y.lanes(1), 0b110000000);
            Check.is("8 in two STEPS", y.lanes(2), 0b111000000);
        });
        Check.sentence("25", "besides those under way: amid the sea", () -> {
            for (int v = -1; v <= 1; v++) {
                NobodyBeenAft x = underWay(v);
                Check.is("in one STEP by " + v, x.lanes(1), 1 << 4 + v);
                Check.row("in one STEP by " + v, x, 1);
                Check.is("in two STEPS by " + v, x.lanes(2), 7 << 3 + v);
                Check.rocks(x, "4,4");
                Check.is("a ROCK by " + v, x.lanes(2), v == 0 ? 0 : 7 << 3 + v);
            }
        });
        Check.sentence("25", "(as clears(): not at NOW, if one was given)", () -> {
            NobodyBeenAft x = make();
            x.order(0);
            Check.is("1", x.lanes(1), 16);
            Check.is("2", x.lanes(2), 0b000111000);
        });
        Check.sentence("25", "NONE: another n", () ->
            others(x -> x.lanes(-1), x -> x.lanes(31), x -> x.lanes(MOST), x -> x.lanes(LEAST)));
    }

    private static void safest() {
        Check.sentence("26", "ROCKS at MILES NOW and 1 .. NOW and n (n 1 .. 999)", () -> {
            NobodyBeenAft x = withRocks("1,4;2,4;3,4;999,4");
            long[] many = {1, 2, 3, 3, 4};
            int[] n = {1, 2, 3, 998, 999};
            for (int i = 0; i < n.length; i++) {
                Check.is("LANE by " + n[i], x.safest(n[i]), 3);
                Check.row("by " + n[i], x, 0, many[i]);
            }
            x.steps(2);
            x.safest(1);
            Check.row("not at NOW", x, 0, 1);
        });
        Check.sentence("26", "of equal ones the nearest to hers, of as near ones the lesser", () -> {
            NobodyBeenAft x = make();
            Check.is("hers", x.safest(1), 4);
            Check.rocks(x, "1,4");
            Check.is("the lesser", x.safest(1), 3);
            Check.rocks(x, "1,3");
            Check.is("the nearer", x.safest(1), 5);
            Check.rocks(x, "1,5;1,2;1,6;1,1;1,7");
            Check.is("the bow", x.safest(1), 0);
            Check.rocks(x, "1,0");
            Check.is("the last", x.safest(1), 8);
            Check.rocks(x, "1,8");
            Check.is("all the same", x.safest(1), 4);
            Check.row("all the same", x, 1, 1);
        });
        Check.sentence("26", "NONE: another n", () ->
            others(x -> x.safest(0), x -> x.safest(1000), x -> x.safest(-1), x -> x.safest(MOST),
                x -> x.safest(LEAST)));
    }

    private static void lateAndComes() {
        Check.sentence("27", "in each of n STEPS (1 .. 30) from NOW on (also at NOW)", () -> {
            NobodyBeenAft x = withRule("12-n*2");
            x.order(1);
            Check.is("1", x.late(1), 0);
            Check.row("1", x, 12);
            Check.is("3", x.late(3), 2);
            Check.row("3", x, 12, 11, 10);
            x.late(30);
            Check.is("30 numbers", x.count(11), 30);
            Check.is("the last", x.row(29), 29 + 2);
        });
        Check.sentence("27", "done later than one that is given behind them", () -> {
            NobodyBeenAft x = withRule("12-n");
            Check.is("as late is not later", x.late(12), 0);
            Check.rule(x, "6-(n=2)*5");
            Check.is("two by one", x.late(4), 2);
            Check.row("two by one", x, 6, 7, 3, 9);
        });
        Check.sentence("27", "NONE: another n", () ->
            others(x -> x.late(0), x -> x.late(31), x -> x.late(-1), x -> x.late(MOST), x -> x.late(LEAST)));
        Check.sentence("28", "behind n STEPS (0 .. 12): the CELL (cut; the stern at most)", () -> {
            NobodyBeenAft x = make();
            Check.ship(x, "40");
            Check.rule(x, "7");
            int[] cells = {0, 5, 11, 16, 22, 27, 33, 39, 39, 39, 39, 39, 39};
            for (int i = 0; i <= 12; i++) {
                Check.is("" + i, x.comes(i), cells[i]);
            }
            Check.rule(x, "12");
            Check.is("11 of 12", x.comes(11), 35);
            Check.is("12 of 12", x.comes(12), 39);
        });
        Check.sentence("28", "how many POSTS it has come by (one at that CELL, too), 1 if these turn it", () -> {
            NobodyBeenAft x = make();
            Check.ship(x, "13,0*,5,6*,7*,12*");
            Check.rule(x, "2");
            Check.is("the bow", x.comes(0), 0);
            Check.row("the bow", x, 1, 1);
            Check.is("6", x.comes(1), 6);
            Check.row("6", x, 3, 0);
            Check.is("the stern", x.comes(2), 12);
            Check.row("the stern", x, 5, 0);
        });
        Check.sentence("28", "NONE: another n", () ->
            others(x -> x.comes(-1), x -> x.comes(13), x -> x.comes(MOST), x -> x.comes(LEAST)));
    }
}
