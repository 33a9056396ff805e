/** Promises 29 to 49: each sentence that names a boundary case has a test of its own. */
public final class RestEdgeTest {
    private static final int NONE = NobodyBeenAft.NONE;
    private static final int LEAST = Integer.MIN_VALUE;
    private static final int MOST = Integer.MAX_VALUE;

    private RestEdgeTest() {
    }

    public static void main(String[] args) {
        posts();
        words();
        lives();
        shares();
        fast();
        seen();
        ordered();
        boys();
        lookouts();
        chances();
        voyages();
        kept();
        counts();
        Check.close("RestEdgeTest");
    }

    private static NobodyBeenAft make() {
        return new NobodyBeenAft();
    }

    private static NobodyBeenAft busy() {
        return TextEdgeTest.busy();
    }

    private static NobodyBeenAft withShip(String ship) {
        NobodyBeenAft x = make();
        Check.ship(x, ship);
        return x;
    }

    private static NobodyBeenAft withMesses(String messes) {
        NobodyBeenAft x = make();
        Check.messes(x, messes);
        return x;
    }

    private static void others(Check.CallOn... calls) {
        for (int i = 0; i < calls.length; i++) {
            Check.stays("other number " + i, busy(), calls[i], NONE);
        }
    }

    private static void fraction(String what, NobodyBeenAft x, int answer, long upper, long lower) {
        Check.is(what, answer, 0);
        Check.row(what, x, upper, lower);
    }

    // ---- posts

    private static void posts() {
        Check.sentence("29", "k POSTS (0 .. 10)", () -> {
            NobodyBeenAft x = withShip("40");
            Check.is("0", x.relay(0), 39);
            Check.row("0", x);
            Check.is("1", x.relay(1), 20);
            Check.row("1", x, 19);
            Check.is("10", x.relay(10), 4);
            Check.row("10", x, 1, 3, 7, 11, 15, 19, 23, 27, 31, 35);
        });
        Check.sentence("29", "at unlike CELLS 1 .. LONG - 2", () -> {
            NobodyBeenAft x = withShip("6");
            Check.is("all of them", x.relay(4), 1);
            Check.row("all of them", x, 1, 2, 3, 4);
            Check.is("all but one", x.relay(3), 2);
            Check.row("all but one", x, 1, 2, 3);
        });
        Check.sentence("29", "of as good ones the least row", () -> {
            NobodyBeenAft x = withShip("8");
            Check.is("4 and 3, not 3 and 4", x.relay(1), 4);
            Check.row("4 and 3", x, 3);
            Check.is("two", x.relay(2), 3);
            Check.row("two", x, 1, 4);
        });
        Check.sentence("29", "-2: there are not so many CELLS", () -> {
            Check.stays("one of none", make(), x -> x.relay(1), -2);
            Check.is("none of none", make().relay(0), 1);
            Check.stays("two of one", withShip("3"), x -> x.relay(2), -2);
            Check.is("one of one", withShip("3").relay(1), 1);
            Check.stays("ten of nine", withShip("11"), x -> x.relay(10), -2);
            Check.is("ten of ten", withShip("12").relay(10), 1);
        });
        Check.sentence("29", "NONE: another k", () -> {
            others(x -> x.relay(-1), x -> x.relay(11), x -> x.relay(MOST), x -> x.relay(LEAST));
            Check.is("ahead of -2", make().relay(11), NONE);
        });
        Check.sentence("30", "v CELLS (1 .. 39): how many", () -> {
            NobodyBeenAft x = withShip("40");
            int[] v = {1, 2, 12, 13, 19, 20, 38, 39};
            int[] due = {38, 19, 3, 2, 2, 1, 1, 0};
            for (int i = 0; i < v.length; i++) {
                Check.is("" + v[i], x.fewest(v[i]), due[i]);
            }
            Check.is("1 of the shortest", make().fewest(1), 0);
            Check.is("39 of the shortest", make().fewest(39), 0);
        });
        Check.sentence("30", "NONE: another v", () ->
            others(x -> x.fewest(0), x -> x.fewest(40), x -> x.fewest(-1), x -> x.fewest(MOST),
                x -> x.fewest(LEAST)));
    }

    private static void words() {
        Check.sentence("31", "k rows of POSTS (1 .. 15; odd alone)", () -> {
            NobodyBeenAft x = make();
            fraction("1", x, x.word(1, 3), 7, 10);
            fraction("3", x, x.word(3, 3), 98, 125);
            fraction("15", x, x.word(15, 5), 1, 2);
            others(y -> y.word(2, 3), y -> y.word(14, 3), y -> y.word(0, 3), y -> y.word(-1, 3), y -> y.word(16, 3),
                y -> y.word(17, 3), y -> y.word(MOST, 3), y -> y.word(LEAST, 3));
        });
        Check.sentence("31", "by p tenths (0 .. 10)", () -> {
            NobodyBeenAft x = make();
            fraction("0", x, x.word(15, 0), 1, 1);
            fraction("10", x, x.word(15, 10), 0, 1);
            others(y -> y.word(1, -1), y -> y.word(1, 11), y -> y.word(1, MOST), y -> y.word(1, LEAST));
        });
        Check.sentence("32", "(odd, at most 15) with which that is v in 100 or more", () -> {
            int[][] due = {{1, 90, 1}, {1, 91, 3}, {2, 80, 1}, {2, 81, 3}, {4, 77, 13}, {4, 78, 15}, {5, 50, 1},
                {6, 40, 1}};
            for (int[] a : due) {
                Check.is(a[0] + " " + a[1], make().survives(a[0], a[1]), a[2]);
            }
        });
        Check.sentence("32", "v (0 .. 100)", () -> {
            Check.is("0 of lies alone", make().survives(10, 0), 1);
            Check.is("100 of no lies", make().survives(0, 100), 1);
            others(x -> x.survives(1, -1), x -> x.survives(1, 101), x -> x.survives(1, MOST),
                x -> x.survives(1, LEAST));
        });
        Check.sentence("32", "-2: by none", () -> {
            Check.stays("1 of lies alone", make(), x -> x.survives(10, 1), -2);
            Check.stays("100", make(), x -> x.survives(1, 100), -2);
            Check.stays("more than 15", make(), x -> x.survives(4, 79), -2);
            Check.stays("half", make(), x -> x.survives(5, 51), -2);
        });
        Check.sentence("32", "NONE: others", () ->
            others(x -> x.survives(-1, 1), x -> x.survives(11, 1), x -> x.survives(MOST, 1),
                x -> x.survives(LEAST, 1), x -> x.survives(-1, 101)));
    }

    // ---- food

    private static void lives() {
        Check.sentence("33", "if nothing is passed (how 0), aft alone (1), forward alone (2), both ways (3)", () -> {
            NobodyBeenAft x = withMesses("50*5;10*9;80*0");
            int[] lives = {1, 4, 10, 10};
            int[] which = {1, 1, 0, 0};
            for (int i = 0; i < 4; i++) {
                Check.is("how " + i, x.lives(i), lives[i]);
                Check.row("how " + i, x, which[i]);
            }
        });
        Check.sentence("33", "the first MESS by which", () -> {
            NobodyBeenAft x = withMesses("9*1;4*2;4*2;9*1");
            Check.is("alone", x.lives(0), 2);
            Check.row("alone", x, 1);
            Check.is("up to which", x.lives(1), 3);
            Check.row("up to which", x, 2);
            Check.is("from which on", x.lives(2), 3);
            Check.row("from which on", x, 1);
            NobodyBeenAft y = withMesses("2*1;2*1;2*1");
            for (int i = 0; i < 4; i++) {
                Check.is("all the same, how " + i, y.lives(i), 2);
                Check.row("all the same, how " + i, y, 0);
            }
        });
        Check.sentence("33", "0 of how 3", () -> {
            NobodyBeenAft x = withMesses("9*0;9*0;4*9");
            Check.is("both ways", x.lives(3), 2);
            Check.row("both ways", x, 0);
        });
        Check.sentence("33", "no MESS is HUNGRY: one that EATS just what there is is not", () -> {
            NobodyBeenAft x = withMesses("9*3");
            NobodyBeenAft y = withMesses("8*3");
            for (int i = 0; i < 4; i++) {
                Check.is("9 by 3, how " + i, x.lives(i), 3);
                Check.is("8 by 3, how " + i, y.lives(i), 2);
            }
            Check.is("nothing there", withMesses("0*1").lives(0), 0);
            Check.is("who EATS nothing lives", withMesses("0*0;9*9").lives(0), 1);
        });
        Check.sentence("33", "(99999 at most) .. NONE, if nobody EATS", () -> {
            NobodyBeenAft x = withMesses("0*0;9*0");
            for (int i = 0; i < 4; i++) {
                Check.is("how " + i, x.lives(i), 99999);
                Check.row("how " + i, x, NONE);
            }
        });
        Check.sentence("33", "of 8 MESSES, as many as there may be", () -> {
            NobodyBeenAft x = withMesses("9*1;9*1;9*1;9*1;9*1;9*1;9*1;5*1");
            int[] lives = {5, 8, 5, 8};
            int[] which = {7, 7, 7, 0};
            for (int i = 0; i < 4; i++) {
                Check.is("how " + i, x.lives(i), lives[i]);
                Check.row("how " + i, x, which[i]);
            }
            Check.is("which go without", x.fast(9), 1);
            Check.row("which go without", x, 1, 68 - 63);
            Check.is("what is passed", x.shares(8), 1 + 2 + 3);
            Check.row("what is passed", x, 0, 0, 0, 0, 1, 2, 3);
        });
        Check.sentence("33", "NONE: another how", () ->
            others(x -> x.lives(-1), x -> x.lives(4), x -> x.lives(MOST), x -> x.lives(LEAST)));
        Check.sentence("33", "NONE: no MESSES", () -> {
            for (int i = 0; i < 4; i++) {
                int how = i;
                Check.stays("how " + i, make(), x -> x.lives(how), NONE);
            }
        });
    }

    private static void shares() {
        Check.sentence("34", "in n STEPS (0 .. 99), or more", () -> {
            NobodyBeenAft x = withMesses("0*1;99*0");
            Check.is("0", x.shares(0), 0);
            Check.row("0", x, 0);
            Check.is("99", x.shares(99), 99);
            Check.row("99", x, -99);
            Check.is("just so much", withMesses("4*2").shares(2), 0);
        });
        Check.sentence("34", "(below 0: comes from that); of as little the least row", () -> {
            NobodyBeenAft x = withMesses("5*0;0*2;5*0");
            Check.is("2 from either side", x.shares(1), 2);
            Check.row("2 from aft", x, 0, -2);
            Check.is("6, one from forward", x.shares(3), 6);
            Check.row("6, one from forward", x, 1, -5);
        });
        Check.sentence("34", "The least FOOD that must be passed (either way)", () -> {
            NobodyBeenAft x = withMesses("0*1;3*1;0*1;0*1;9*1");
            Check.is("three lack 2", x.shares(2), 2 + 1 + 3 + 5);
            Check.row("three lack 2", x, -2, -1, -3, -5);
            NobodyBeenAft y = withMesses("9*0;0*3;0*3;9*0;0*3;9*0");
            Check.is("from both sides", y.shares(3), 9 + 9 + 9);
            Check.row("from both sides", y, 9, 0, -9, 0, -9);
            NobodyBeenAft z = withMesses("4*1;0*2;9*1;0*1");
            Check.is("what is left stays", z.shares(2), 6);
            Check.row("what is left stays", z, 0, -4, 2);
        });
        Check.sentence("34", "The least FOOD: what is nearest is not kept, if that is more in all", () -> {
            NobodyBeenAft x = withMesses("5*0;0*5;0*0;9*0");
            Check.is("one passes 5", x.shares(1), 5);
            Check.row("one passes 5", x, 5, 0, 0);
            NobodyBeenAft y = withMesses("9*0;5*0;0*5;0*0;0*0;9*0");
            Check.is("the second of six does", y.shares(1), 5);
            Check.row("the second of six does", y, 0, 5, 0, 0, 0);
        });
        Check.sentence("34", "the ROW: for each MESS but the last", () -> {
            NobodyBeenAft x = withMesses("9*9");
            x.relay(0);
            x.late(1);
            Check.is("one MESS", x.shares(1), 0);
            Check.row("one MESS", x);
            NobodyBeenAft y = withMesses("8*1;0*1;0*1;0*1;0*1;0*1;0*1;0*1");
            Check.is("eight", y.shares(1), 28);
            Check.row("eight", y, 7, 6, 5, 4, 3, 2, 1);
        });
        Check.sentence("34", "(More than 99 in a MESS may be here.)", () -> {
            NobodyBeenAft x = withMesses("99*0;99*0;0*9");
            Check.is("198", x.shares(22), 99 + 198);
            Check.row("198", x, 99, 198);
        });
        Check.sentence("34", "-2: there is not so much in all", () -> {
            NobodyBeenAft x = withMesses("5*1;4*2");
            Check.is("just so much", x.shares(3), 2);
            Check.stays("one STEP more", x, y -> y.shares(4), -2);
            Check.stays("1 too little", withMesses("5*3;0*0"), y -> y.shares(2), -2);
            Check.is("of nothing", withMesses("0*0;0*0").shares(99), 0);
        });
        Check.sentence("34", "NONE: another n, no MESSES", () -> {
            others(x -> x.shares(-1), x -> x.shares(100), x -> x.shares(MOST), x -> x.shares(LEAST));
            Check.stays("no MESSES", make(), x -> x.shares(0), NONE);
        });
    }

    private static void fast() {
        Check.sentence("35", "what all others EAT in n STEPS (0 .. 99), or more", () -> {
            NobodyBeenAft x = withMesses("99*1;0*1");
            Check.is("0", x.fast(0), 0);
            Check.row("0", x, 0, 99);
            Check.is("49", x.fast(49), 0);
            Check.row("49", x, 0, 1);
            Check.is("50", x.fast(50), 1);
            Check.row("50", x, 1, 49);
            Check.is("99", x.fast(99), 1);
            Check.row("99: just so much", x, 1, 0);
        });
        Check.sentence("35", "The smallest set (of as small ones the least)", () -> {
            NobodyBeenAft x = withMesses("9*1;9*9;9*2;9*9");
            Check.is("one: the second, not the last", x.fast(3), 2);
            Check.row("one", x, 1, 0);
            NobodyBeenAft last = withMesses("0*0;0*1");
            Check.is("all but the bow", last.fast(1), 2);
            NobodyBeenAft bow = withMesses("0*1;0*0");
            Check.is("the bow alone", bow.fast(1), 1);
            Check.is("two: not one that is less", x.fast(10), 0b1010);
            Check.row("two", x, 2, 6);
        });
        Check.sentence("35", "(0: nobody need)", () -> {
            Check.is("just so much", withMesses("5*5;3*3").fast(1), 0);
            Check.is("all of nothing", withMesses("0*1;0*1").fast(1), 3);
            Check.is("nobody EATS", withMesses("0*0;0*0").fast(99), 0);
        });
        Check.sentence("35", "NONE: another n, no MESSES", () -> {
            others(x -> x.fast(-1), x -> x.fast(100), x -> x.fast(MOST), x -> x.fast(LEAST));
            Check.stays("no MESSES", make(), x -> x.fast(0), NONE);
        });
    }

    // ---- what was ordered

    private static void seen() {
        Check.sentence("36", "In a STEP k (0 .. 24) she was seen in a LANE: how many such", () -> {
            NobodyBeenAft x = make();
            Check.is("STEP 0", x.seen(0, 0), 1);
            Check.is("STEP 24", x.seen(24, 8), 2);
            Check.is("count", x.count(9), 2);
        });
        Check.sentence("36", "(the same told again is none more)", () -> {
            NobodyBeenAft x = make();
            x.seen(0, 0);
            x.seen(5, 4);
            Check.is("the same", x.seen(0, 0), 2);
            Check.is("none more", x.count(9), 2);
        });
        Check.sentence("36", "-2: another LANE was seen in that STEP", () -> {
            NobodyBeenAft x = make();
            x.seen(5, 4);
            Check.stays("another", x, y -> y.seen(5, 3), -2);
            Check.is("the one that was", x.seen(5, 4), 1);
            Check.is("another STEP", x.seen(6, 3), 2);
        });
        Check.sentence("36", "NONE: others", () ->
            others(x -> x.seen(-1, 4), x -> x.seen(25, 4), x -> x.seen(MOST, 4), x -> x.seen(LEAST, 4),
                x -> x.seen(2, -1), x -> x.seen(2, 9), x -> x.seen(5, MOST), x -> x.seen(5, LEAST)));
        Check.sentence("36", "NONE: 12 are there", () -> {
            NobodyBeenAft x = make();
            for (int i = 1; i <= 12; i++) {
                Check.is("" + i, x.seen(i, 4), i);
            }
            Check.stays("13", x, y -> y.seen(0, 4), NONE);
            Check.is("the same is none more", x.seen(12, 4), 12);
            Check.is("another LANE", x.seen(12, 5), -2);
        });
        Check.sentence("37", "They are forgotten: how many there were", () -> {
            Check.is("none", make().forget(), 0);
            NobodyBeenAft x = make();
            for (int i = 1; i <= 12; i++) {
                x.seen(i, 4);
            }
            Check.is("12", x.forget(), 12);
            Check.is("none then", x.forget(), 0);
            Check.is("another LANE may be seen", x.seen(1, 5), 1);
            Check.is("nothing of old", x.ordered(), 1);
        });
    }

    private static NobodyBeenAft sighted(int... all) {
        NobodyBeenAft x = make();
        for (int i = 0; i < all.length; i += 2) {
            x.seen(all[i], all[i + 1]);
        }
        return x;
    }

    private static void ordered() {
        Check.sentence("38", "in each STEP from 1 to the last that was seen; from LANE 4 in STEP 0", () -> {
            NobodyBeenAft x = sighted(0, 4);
            x.late(2);
            Check.is("STEP 0 alone", x.ordered(), 1);
            Check.row("no STEPS", x);
            Check.is("not from LANE 4", sighted(0, 5).ordered(), 0);
            NobodyBeenAft y = sighted(2, 5, 1, 4);
            Check.is("two", y.ordered(), 1);
            Check.row("two", y, 0, 1);
        });
        Check.sentence("38", "beyond 0 .. 8 she stays", () -> {
            NobodyBeenAft x = sighted(4, 8, 5, 8);
            Check.is("at 8", x.ordered(), 2);
            Check.row("at 8", x, 1, 1, 1, 1, 0);
            NobodyBeenAft y = sighted(4, 0, 5, 0);
            Check.is("at 0", y.ordered(), 2);
            Check.row("at 0", y, -1, -1, -1, -1, -1);
        });
        Check.sentence("38", "how many (1000000 at most)", () -> {
            Check.is("a few less", sighted(9, 0, 17, 3).ordered(), 997920);
            Check.is("a few more", sighted(3, 1, 17, 1).ordered(), 1000000);
            NobodyBeenAft x = sighted(24, 4);
            Check.is("many more", x.ordered(), 1000000);
            Check.is("24 numbers", x.count(11), 24);
            long[] first = {-1, -1, -1, -1, -1};
            for (int i = 0; i < 5; i++) {
                Check.is("the least row " + i, x.row(i), first[i]);
            }
            for (int i = 20; i < 24; i++) {
                Check.is("the least row " + i, x.row(i), 1);
            }
        });
        Check.sentence("38", "the least row (nothing without)", () -> {
            NobodyBeenAft x = sighted(3, 8);
            x.late(2);
            Check.is("none", x.ordered(), 0);
            Check.row("none", x);
            NobodyBeenAft y = sighted(2, 4);
            Check.is("three", y.ordered(), 3);
            Check.row("three", y, -1, 1);
        });
        Check.sentence("38", "NONE: nothing was seen", () -> {
            Check.stays("at first", make(), NobodyBeenAft::ordered, NONE);
            NobodyBeenAft x = sighted(3, 4);
            x.forget();
            Check.stays("forgotten", x, NobodyBeenAft::ordered, NONE);
        });
        Check.sentence("39", "The STEP (0 .. the last that was seen); of equal ones the first", () -> {
            NobodyBeenAft x = sighted(0, 4);
            Check.is("STEP 0", x.unsure(), 0);
            Check.row("STEP 0", x, 16);
            NobodyBeenAft y = sighted(3, 5);
            Check.is("1 and 2", y.unsure(), 1);
            Check.row("1 and 2", y, 0b000111000);
            NobodyBeenAft z = sighted(1, 4, 24, 4);
            Check.is("nine LANES", z.unsure(), 5);
            Check.row("nine LANES", z, 511);
        });
        Check.sentence("39", "-2: there are no such rows, nothing was seen", () -> {
            Check.stays("at first", make(), NobodyBeenAft::unsure, -2);
            Check.stays("too far", sighted(3, 8), NobodyBeenAft::unsure, -2);
            Check.stays("not from LANE 4", sighted(0, 3), NobodyBeenAft::unsure, -2);
            Check.stays("not from one to the next", sighted(5, 4, 6, 6), NobodyBeenAft::unsure, -2);
            Check.is("just so far", sighted(4, 8).unsure(), 0);
        });
        Check.sentence("39", "in which she can have been by such rows", () -> {
            NobodyBeenAft x = sighted(3, 1, 4, 2);
            Check.is("one row near 0", x.unsure(), 0);
            Check.row("one row near 0", x, 16);
            NobodyBeenAft y = sighted(3, 7, 4, 6);
            Check.is("one row near 8", y.unsure(), 0);
            Check.row("one row near 8", y, 16);
            NobodyBeenAft z = sighted(5, 1);
            Check.is("three LANES in four STEPS", z.unsure(), 1);
            Check.row("three LANES in four STEPS", z, 0b000111000);
        });
    }

    // ---- the boy, lookouts, mutinies

    private static void boys() {
        Check.sentence("40", "in each STEP whose number is a multiple of r (2 .. 9) he rests", () -> {
            NobodyBeenAft x = withShip("40");
            int[][] due = {{1, 2, 1}, {2, 2, 1}, {3, 2, 2}, {8, 9, 8}, {9, 9, 8}, {10, 9, 9}, {18, 9, 16}};
            for (int[] a : due) {
                Check.is(a[0] + " by " + a[1], x.boy(a[0], a[1]), a[2]);
                Check.row(a[0] + " by " + a[1], x, 1);
            }
        });
        Check.sentence("40", "at the stern he turns, at the bow again", () -> {
            NobodyBeenAft x = withShip("3");
            int[] cells = {0, 1, 2, 1, 0, 1, 2, 1, 0, 0, 1};
            int[] to = {1, 1, -1, -1, 1, 1, -1, -1, 1, 1, 1};
            for (int i = 0; i < cells.length; i++) {
                Check.is("behind " + i, x.boy(i, 9), cells[i]);
                Check.row("behind " + i, x, to[i]);
            }
        });
        Check.sentence("40", "1 if he goes aft then (at the bow, too), -1 if forward (at the stern, too)", () -> {
            NobodyBeenAft x = make();
            int[] cells = {0, 1, 1, 0, 0, 1, 1};
            for (int i = 0; i < cells.length; i++) {
                Check.is("behind " + i, x.boy(i, 2), cells[i]);
                Check.row("behind " + i, x, cells[i] == 0 ? 1 : -1);
            }
        });
        Check.sentence("40", "behind n STEPS (0 .. 99999)", () -> {
            NobodyBeenAft x = withShip("4");
            Check.is("0", x.boy(0, 2), 0);
            Check.is("99999 by 9: 88888 CELLS", x.boy(99999, 9), 2);
            Check.row("99999", x, -1);
            Check.is("99999 by 2: 50000 CELLS", x.boy(99999, 2), 2);
        });
        Check.sentence("40", "NONE: others", () ->
            others(x -> x.boy(-1, 2), x -> x.boy(100000, 2), x -> x.boy(MOST, 2), x -> x.boy(LEAST, 2),
                x -> x.boy(1, 1), x -> x.boy(1, 10), x -> x.boy(1, 0), x -> x.boy(1, -2), x -> x.boy(1, MOST),
                x -> x.boy(1, LEAST)));
        Check.sentence("41", "In which STEP (1 .. 999) he is first in one CELL with another boy", () -> {
            NobodyBeenAft x = withShip("3");
            Check.is("in the middle", x.meets(2), 1);
            Check.row("in the middle", x, 1);
            Check.ship(x, "40");
            // they pass each other between two CELLS in STEPS 21 and 62; in STEP 103 he has gone 92
            Check.is("past one another", x.meets(9), 103);
            Check.row("past one another", x, 14);
            Check.ship(x, "2");
            for (int r = 2; r <= 9; r++) {
                Check.is("at first unlike, r " + r, x.meets(r), r);
                Check.row("r " + r, x, r % 2 == 0 ? 1 : 0);
            }
        });
        Check.sentence("41", "-2: in none", () -> {
            // they always meet: whoever rests once is met
            NobodyBeenAft x = make();
            for (int i = 2; i <= 40; i++) {
                Check.ship(x, "" + i);
                for (int r = 2; r <= 9; r++) {
                    Check.is(i + " by " + r, x.meets(r) >= 1, true);
                }
            }
        });
        Check.sentence("41", "NONE: another r", () ->
            others(x -> x.meets(1), x -> x.meets(10), x -> x.meets(0), x -> x.meets(-2), x -> x.meets(MOST),
                x -> x.meets(LEAST)));
    }

    private static void lookouts() {
        Check.sentence("42", "lost by p tenths (0 .. 10): just n words (0 .. 12)", () -> {
            NobodyBeenAft x = make();
            fraction("0 words, 0 tenths", x, x.knows(0, 0), 0, 1);
            fraction("0 words, 10 tenths", x, x.knows(0, 10), 1, 1);
            fraction("1 word, 10 tenths", x, x.knows(1, 10), 0, 1);
            fraction("12 words, 0 tenths", x, x.knows(12, 0), 0, 1);
            fraction("12 words, 5 tenths", x, x.knows(12, 5), 1, 8192);
            fraction("12 words, 9 tenths", x, x.knows(12, 9), 9, 10000000000000L);
        });
        Check.sentence("42", "NONE: others", () ->
            others(x -> x.knows(-1, 1), x -> x.knows(13, 1), x -> x.knows(MOST, 1), x -> x.knows(LEAST, 1),
                x -> x.knows(1, -1), x -> x.knows(1, 11), x -> x.knows(1, MOST), x -> x.knows(1, LEAST)));
        Check.sentence("43", "(1 .. 20 each), 0 .. 9, no more than it holds, v (1 .. 18)", () -> {
            int[][] due = {{1, 1, 1, 3}, {1, 1, 2, 4}, {1, 1, 3, 4}, {1, 1, 18, 4}, {20, 20, 18, 82},
                {20, 1, 10, 11}, {1, 20, 10, 11}};
            for (int[] a : due) {
                NobodyBeenAft x = make();
                Check.is(a[0] + " " + a[1] + " " + a[2], x.mutiny(a[0], a[1], a[2]), mutinies(a[0], a[1], a[2]));
                Check.is("by hand " + a[0] + " " + a[1] + " " + a[2], x.mutiny(a[0], a[1], a[2]), a[3]);
            }
        });
        Check.sentence("43", "else each has half of what it holds (cut): all a, b, v", () -> {
            for (int a = 1; a <= 20; a++) {
                for (int b = 1; b <= 20; b++) {
                    NobodyBeenAft x = make();
                    for (int v = 1; v <= 18; v++) {
                        Check.is(a + " " + b + " " + v, x.mutiny(a, b, v), mutinies(a, b, v));
                    }
                }
            }
        });
        Check.sentence("43", "the ROW: the least", () -> {
            NobodyBeenAft x = make();
            x.mutiny(20, 3, 1);
            Check.row("first 0", x, 0, 1);
            x.mutiny(3, 20, 1);
            Check.row("first 0 still", x, 0, 1);
        });
        Check.sentence("43", "NONE: others", () ->
            others(x -> x.mutiny(0, 1, 1), x -> x.mutiny(21, 1, 1), x -> x.mutiny(1, 0, 1), x -> x.mutiny(1, 21, 1),
                x -> x.mutiny(1, 1, 0), x -> x.mutiny(1, 1, 19), x -> x.mutiny(MOST, 1, 1),
                x -> x.mutiny(LEAST, 1, 1), x -> x.mutiny(1, MOST, 1), x -> x.mutiny(1, LEAST, 1),
                x -> x.mutiny(1, 1, MOST), x -> x.mutiny(1, 1, LEAST)));
    }

    /** Counts as the document says it: each pair, each other bid. */
    private static int mutinies(int a, int b, int v) {
        int many = 0;
        for (int x = 0; x <= 9 && x <= a; x++) {
            for (int y = 0; y <= 9 && y <= b; y++) {
                boolean content = true;
                for (int z = 0; z <= 9; z++) {
                    content &= z > a || (z + y >= v ? a - z : a / 2) <= (x + y >= v ? a - x : a / 2);
                    content &= z > b || (x + z >= v ? b - z : b / 2) <= (x + y >= v ? b - y : b / 2);
                }
                many += content ? 1 : 0;
            }
        }
        return many;
    }

    // ---- chances, voyages

    private static void chances() {
        Check.sentence("44", "in each of n STEPS (1 .. 12) by p tenths (0 .. 10)", () -> {
            NobodyBeenAft x = make();
            fraction("1", x, x.chance(1, 3, 0), 7, 10);
            fraction("12", x, x.chance(12, 5, 0), 1, 4096);
            fraction("12 by 1", x, x.chance(12, 9, 0), 1, 1000000000000L);
            fraction("0 tenths", x, x.chance(12, 0, 0), 1, 1);
            fraction("10 tenths", x, x.chance(1, 10, 0), 0, 1);
        });
        Check.sentence("44", "one sees s STEPS (0 .. 12) ahead, if that is delay() or more", () -> {
            NobodyBeenAft x = make();
            Check.rule(x, "7");
            fraction("one less", x, x.chance(2, 5, 6), 1, 4);
            fraction("just so many", x, x.chance(2, 5, 7), 1, 1);
            fraction("more", x, x.chance(2, 10, 12), 1, 1);
            Check.rule(x, "12");
            fraction("11 of 12", x, x.chance(2, 5, 11), 1, 4);
            fraction("12 of 12", x, x.chance(2, 5, 12), 1, 1);
            Check.rule(x, "n+1");
            x.steps(1);
            fraction("DELAY at NOW", x, x.chance(2, 5, 1), 1, 4);
        });
        Check.sentence("44", "NONE: others", () ->
            others(x -> x.chance(0, 1, 1), x -> x.chance(13, 1, 1), x -> x.chance(MOST, 1, 1),
                x -> x.chance(LEAST, 1, 1), x -> x.chance(1, -1, 1), x -> x.chance(1, 11, 1),
                x -> x.chance(1, MOST, 1), x -> x.chance(1, LEAST, 1), x -> x.chance(1, 1, -1),
                x -> x.chance(1, 1, 13), x -> x.chance(1, 1, MOST), x -> x.chance(1, 1, LEAST)));
    }

    private static void voyages() {
        Check.sentence("45", "n STEPS (1 .. 60) from now", () -> {
            NobodyBeenAft x = make();
            Check.rocks(x, "60,0;60,1;60,2;60,3;60,4;60,5;60,6;60,7;60,8;61,0;1,3;1,4;1,5");
            Check.is("1", x.voyages(1, 1), 1);
            Check.is("59", x.voyages(1, 59), 1);
            Check.is("60", x.voyages(1, 60), 2);
        });
        Check.sentence("45", "HITS in these: not those ahead of NOW", () -> {
            NobodyBeenAft x = make();
            Check.rocks(x, "1,4;1,4;2,3;2,4;2,5");
            x.steps(1);
            Check.is("HITS ahead of NOW", x.count(7), 2);
            Check.is("HITS behind", x.voyages(0, 1), 1);
        });
        Check.sentence("45", "0: -1, 1: 1, else none", () -> {
            // R of seed 0: 12345; of 1: 1103527590; of 2: -2087924461; of 3: -984408871
            int[] seeds = {0, 1, 2, 3};
            for (int seed : seeds) {
                int r = seed * 1103515245 + 12345;
                int draw = (int) ((r & 0xffffffffL) / 65536 % 4);
                NobodyBeenAft x = make();
                x.voyages(seed, 1);
                Check.row("seed " + seed, x, draw == 0 ? 3 : draw == 1 ? 5 : 4, draw < 2 ? 1 : 0);
            }
            NobodyBeenAft x = make();
            x.voyages(0, 1);
            Check.row("0 by hand: -1", x, 3, 1);
            x.voyages(1, 1);
            Check.row("1838 % 4 by hand: none", x, 4, 0);
        });
        Check.sentence("45", "none if it would be refused by order()", () -> {
            NobodyBeenAft x = make();
            Check.rule(x, "9");
            x.order(0);
            x.voyages(0, 1);
            Check.row("one was given", x, 4, 0);
            x.steps(1);
            x.voyages(0, 1);
            Check.row("in the next STEP", x, 4, 1);
        });
        Check.sentence("45", "R without sign, by 65536", () -> {
            // seed 2: R is -2087924461 (2207042835 without sign), 33676 by 65536, 0 by 4: -1
            NobodyBeenAft x = make();
            x.voyages(2, 1);
            Check.row("R below 0", x, 3, 1);
        });
        Check.sentence("45", "R times 1103515245 + 12345 (as ints)", () -> {
            for (int seed : new int[] {0, 1, -1, LEAST, MOST, 65536, 4711}) {
                voyage(seed);
            }
        });
        Check.sentence("45", "(Nothing changes.)", () -> {
            NobodyBeenAft x = busy();
            NobodyBeenAft y = busy();
            x.voyages(7, 60);
            for (int i = 0; i < 11; i++) {
                Check.is("count(" + i + ")", x.count(i), y.count(i));
            }
            for (int i = 0; i < 3; i++) {
                Check.is("FOOD " + i, x.mess(i, 0), y.mess(i, 0));
                Check.is("HUNGRY " + i, x.mess(i, 2), y.mess(i, 2));
            }
            for (int i = 0; i < 2; i++) {
                Check.is("when " + i, x.way(i, 0), y.way(i, 0));
                Check.is("what " + i, x.way(i, 1), y.way(i, 1));
            }
            Check.is("one was given at NOW", x.order(0), -2);
            Check.is("undo", x.undo(), 3);
        });
        Check.sentence("45", "NONE: another n", () ->
            others(x -> x.voyages(1, 0), x -> x.voyages(1, 61), x -> x.voyages(1, -1), x -> x.voyages(1, MOST),
                x -> x.voyages(1, LEAST)));
    }

    /** LANE behind 20 STEPS, by draws in longs. */
    private static void voyage(int seed) {
        NobodyBeenAft x = make();
        long r = seed & 0xffffffffL;
        int lane = 4;
        int given = 0;
        for (int i = 0; i < 20; i++) {
            r = (r * 1103515245L + 12345L) & 0xffffffffL;
            long draw = r / 65536 % 4;
            lane += draw == 0 && lane > 0 ? -1 : draw == 1 && lane < 8 ? 1 : 0;
            given += draw < 2 ? 1 : 0;
        }
        Check.is("HITS by " + seed, x.voyages(seed, 20), 0);
        Check.row("seed " + seed, x, lane, given);
    }

    // ---- kept

    private static void kept() {
        Check.sentence("46", "are kept under a number 0 .. 2: true", () -> {
            NobodyBeenAft x = make();
            for (int i = 0; i < 3; i++) {
                Check.is("keep " + i, x.keep(i), true);
                x.steps(1);
            }
            for (int i = 2; i >= 0; i--) {
                Check.is("again " + i, x.again(i), true);
                Check.is("NOW " + i, x.count(5), i);
            }
            x.steps(5);
            Check.is("over another", x.keep(0), true);
            x.steps(1);
            x.again(0);
            Check.is("the later one", x.count(5), 5);
        });
        Check.sentence("46", "NOW, LANE, HITS, orders under way, FOOD, HUNGRY are kept", () -> {
            NobodyBeenAft x = withMesses("1*1;0*1");
            Check.rocks(x, "2,5");
            x.order(1);
            x.steps(2);
            Check.rule(x, "9");
            x.order(-1);
            x.keep(1);
            x.steps(20);
            x.cook(0, 77);
            x.again(1);
            long[] got = {x.count(5), x.count(6), x.count(7), x.count(8), x.way(0, 0), x.way(0, 1), x.mess(0, 0),
                x.mess(0, 2), x.mess(1, 2)};
            long[] due = {2, 5, 1, 1, 9, -1, 0, 1, 2};
            for (int i = 0; i < due.length; i++) {
                Check.is("number " + i, got[i], due[i]);
            }
        });
        Check.sentence("46", "Refused: others", () -> {
            for (int i : new int[] {LEAST, -1, 3, MOST}) {
                Check.stays("" + i, busy(), x -> x.keep(i) ? 1 : 0, 0);
            }
        });
        Check.sentence("47", "Refused: nothing kept", () -> {
            for (int i : new int[] {LEAST, -1, 0, 1, 2, 3, MOST}) {
                Check.stays("" + i, make(), x -> x.again(i) ? 1 : 0, 0);
            }
            Check.stays("under another number", busy(), x -> x.again(1) ? 1 : 0, 0);
            Check.is("under this", busy().again(0), true);
        });
        Check.sentence("47", "Refused: MESSES came since", () -> {
            NobodyBeenAft x = busy();
            Check.messes(x, "1*1");
            Check.stays("they came", x, y -> y.again(0) ? 1 : 0, 0);
            x.keep(0);
            Check.is("kept behind them", x.again(0), true);
            NobodyBeenAft z = busy();
            Check.messes(z, "");
            Check.messes(z, "1*");
            Check.is("none came", z.again(0), true);
        });
    }

    private static void counts() {
        Check.sentence("48", "What 0 .. 12", () -> {
            NobodyBeenAft x = busy();
            x.steps(2);
            x.sign(0);
            int[] due = {17, 3, 1, 3, 3, 3, 3, 0, 1, 1, 5, 2, 4};
            for (int i = 0; i < due.length; i++) {
                Check.is("count(" + i + ")", x.count(i), due[i]);
            }
        });
        Check.sentence("48", "-100 for another what", () -> {
            for (int i : new int[] {LEAST, -1, 13, MOST}) {
                Check.stays("" + i, busy(), x -> x.count(i), -100);
            }
        });
        Check.sentence("49", "Number i of the ROW", () -> {
            NobodyBeenAft x = busy();
            long[] due = {3, 4, 5};
            for (int i = 0; i < 3; i++) {
                Check.is("" + i, x.row(i), due[i]);
            }
            x.knows(12, 9);
            Check.is("more than an int", x.row(1), 10000000000000L);
        });
        Check.sentence("49", "NoSuchElementException: none such", () -> {
            Check.none("at first", () -> make().row(0));
            for (int i : new int[] {LEAST, -1, 3, 30, MOST}) {
                Check.none("" + i, () -> busy().row(i));
            }
            NobodyBeenAft x = busy();
            x.relay(0);
            Check.none("of a ROW without numbers", () -> x.row(0));
            NobodyBeenAft y = busy();
            y.late(30);
            Check.is("the last of 30", y.row(29), 32);
            Check.none("behind 30", () -> y.row(30));
            y.lane(0);
            Check.none("of a ROW that was", () -> y.row(1));
        });
    }
}
