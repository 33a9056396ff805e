/** Each promise by itself: ordinary inputs, the edges that the document names, wrong inputs. */
public final class PromiseTest {
    private static final int NONE = NobodyBeenAft.NONE;

    private PromiseTest() {
    }

    public static void main(String[] args) {
        texts();
        steps();
        ahead();
        posts();
        food();
        ordered();
        boys();
        kept();
        Check.close("PromiseTest");
    }

    private static NobodyBeenAft make() {
        return new NobodyBeenAft();
    }

    /** A ship of 17 cells (DELAY 3) with one liar. */
    private static NobodyBeenAft liar() {
        NobodyBeenAft x = make();
        Check.ship(x, "17,4,8*,12");
        return x;
    }

    private static NobodyBeenAft at(int now) {
        NobodyBeenAft x = make();
        for (int i = 0; i < now; i++) {
            x.steps(1);
        }
        return x;
    }

    // ---- the ship, rocks, messes

    private static void texts() {
        p1();
        p2();
        p3();
        p4();
        p5();
        p6();
        p7();
        signs();
        p8to10();
        p11();
        p12();
    }

    private static void p1() {
        NobodyBeenAft x = make();
        int[] due = {2, 0, 0, 0, 0, 0, 4, 0, 0, 0, 0, 0, 0};
        for (int i = 0; i < due.length; i++) {
            Check.is("1 count(" + i + ")", x.count(i), due[i]);
        }
        Check.is("1 NONE", NobodyBeenAft.NONE, -1);
        Check.is("1 delay", x.delay(), 1);
        Check.row("1", x);
    }

    private static void p2() {
        NobodyBeenAft x = make();
        Check.is("2 first", x.sign('2' << 24 | ',' << 16 | '1' << 8 | '*'), 4);
        Check.is("2 the highest byte stands first", x.ship(), 1);
        Check.is("2 a liar at 1", x.post(0, 1), 1);
        for (int i = 1; i <= 20; i++) {
            Check.is("2 sign " + i, x.sign(-1), 4 * i);
        }
        Check.is("2 no more than 80", x.sign(0), NONE);
        Check.is("2 it stays", x.count(12), 80);
        x.end(77);
        Check.is("2 81 would be there", x.sign(0), NONE);
        x.end(76);
        Check.is("2 80 are there", x.sign(0), 80);
    }

    private static void p3() {
        NobodyBeenAft x = make();
        Check.is("3 nothing of nothing", x.end(0), true);
        Check.is("3 one of nothing", x.end(1), false);
        x.sign('4' << 24);
        Check.is("3 below 0", x.end(-1), false);
        Check.is("3 too many", x.end(5), false);
        Check.is("3 all", x.end(4), true);
        Check.is("3 all are there", x.count(12), 4);
        Check.is("3 one", x.end(1), true);
        Check.is("3 one is there", x.count(12), 1);
        Check.is("3 the first one", x.ship(), 0);
        Check.is("3 it is read", x.count(0), 4);
    }

    private static void p4() {
        NobodyBeenAft x = make();
        Check.is("4", Check.ship(x, "17,4,8*,12"), 3);
        Check.is("4 LONG", x.count(0), 17);
        Check.is("4 POSTS", x.count(1), 3);
        Check.is("4 LIARS", x.count(2), 1);
        Check.is("4 the text is read", x.count(12), 0);
        String[] wrong = {"", "x", "1", "0", "01", "41", "99", "123", "1x", "5,", "5,x", "5,5", "5,12", "5,3,3",
            "5,3,2", "5,3,,", "5,3**", "5*", "9,0,1,2,3*,4,5,", "40,1,2,3,4,5,6,7,8,9,10,", "5,4;", "5,123",
            "40,10*,11*,12*,13*,14*,15*,16*,17*,18*,19*,", "40,10*,11*,12*,13*,14*,15*,16*,17*,18*,19*,20",
            "012", "020,3",
            "40,10*,11*,12*,13*,14*,15*,16*,17*,18*,19**xxxxxx", "20,1*,2*,3*,4*,5*,6*,7*,8*,9*,19 xxxxxxxxxxxx"};
        int[] due = {0, 0, 0, 0, 1, 1, 1, 2, 0, 2, 2, 2, 3, 4,
            4, 4, 4, 1, 15, 23, 3, 3,
            42, 42, 1, 2, 42, 32};
        for (int i = 0; i < wrong.length; i++) {
            Check.is("4 " + wrong[i], Check.ship(x, wrong[i]), -1 - due[i]);
            Check.is("4 read all the same " + i, x.count(12), 0);
        }
        Check.is("4 refused, LONG stays", x.count(0), 17);
        Check.is("4 refused, POSTS stay", x.post(2, 0), 12);
        Check.is("4 least", Check.ship(x, "2,0*,1*"), 2);
        Check.is("4 most", Check.ship(x, "40,0,1,2,3,4,5,6,7,8,39"), 10);
        Check.is("4 longest", Check.ship(x, "40,10*,11*,12*,13*,14*,15*,16*,17*,18*,19*"), 10);
        Check.is("4 noughts ahead", Check.ship(x, "02,00,01"), 2);
        NobodyBeenAft y = liar();
        y.order(1);
        Check.ship(y, "3");
        Check.is("4 orders come as they were given: when", y.way(0, 0), 3);
        Check.is("4 orders come as they were given: what", y.way(0, 1), -1);
        Check.is("4 undo is not touched", y.undo(), 0);
    }

    private static void p5() {
        NobodyBeenAft x = make();
        Check.is("5 nothing", x.rocks(), 0);
        Check.is("5 two", Check.rocks(x, "5,0;999,8"), 2);
        Check.is("5 again one", Check.rocks(x, "005,0"), 1);
        Check.is("5 all", x.count(3), 3);
        Check.is("5 the text is read", x.count(12), 0);
        Check.is("5 noughts ahead", x.rock(2, 0), 5);
        String[] wrong = {"x", "5", "5,", "5,9", "5,3;", "5,3;x", "0,3", "000,3", "00", "0x", "1234,5", "5;3", "5,3,4",
            "5,33", "7,1;0,2", ";"};
        int[] due = {0, 1, 2, 2, 4, 4, 0, 2, 1, 0, 3, 1, 3, 3, 4, 0};
        for (int i = 0; i < wrong.length; i++) {
            Check.is("5 " + wrong[i], Check.rocks(x, wrong[i]), -1 - due[i]);
            Check.is("5 read all the same " + i, x.count(12), 0);
        }
        Check.is("5 nothing of it comes", x.count(3), 3);
        Check.is("5 no room for the last", Check.rocks(x, "1,1;".repeat(13) + "2,2"), -1 - 52);
        Check.is("5 too early where there is no room", Check.rocks(x, "1,1;".repeat(13)), -1 - 52);
        Check.is("5 room for 13", Check.rocks(x, "1,1;".repeat(12) + "2,2"), 13);
        Check.is("5 none for one", Check.rocks(x, "1,1"), -1);
        Check.is("5 nothing where there is no room", Check.rocks(x, ""), 0);
        NobodyBeenAft all = make();
        Check.is("5 seventeen at once", Check.rocks(all, "1,1;".repeat(16) + "1,1"), -1 - 64);
        Check.is("5 sixteen and ;", Check.rocks(all, "1,1;".repeat(16)), -1 - 64);
        Check.is("5 sixteen at once", Check.rocks(all, "1,1;".repeat(15) + "1,1"), 16);
        NobodyBeenAft y = make();
        String most = "100,1;".repeat(12) + "9,10";
        Check.is("5 76 and a fault ahead", Check.rocks(y, most + ";"), -1 - 75);
        String full = "100,1;".repeat(12) + "99,1";
        Check.is("5 just 76", Check.rocks(y, full), 13);
        NobodyBeenAft z = make();
        Check.is("5 77", Check.rocks(z, full + ";"), -1 - 76);
        Check.is("5 77, a fault there", Check.rocks(z, full + "x"), -1 - 76);
        Check.is("5 80", Check.rocks(z, full + ";1,1"), -1 - 76);
        String cut = "100,1;".repeat(12) + "1,1;";
        Check.is("5 cut behind ;", Check.rocks(z, cut + "1,1"), -1 - 76);
        String number = "100,1;".repeat(11) + "10,1;1,1;";
        Check.is("5 cut in a nought", Check.rocks(z, number + "0,1"), -1 - 76);
        String noughts = "100,1;".repeat(11) + "1,1;1,1;00";
        Check.is("5 cut in two noughts", Check.rocks(z, noughts + ",1"), -1 - 76);
        String three = "100,1;".repeat(11) + "1,1;10,000";
        Check.is("5 a fault ahead of the cut", Check.rocks(z, three + ",1"), -1 - 74);
        String zero = "100,1;".repeat(11) + "100,1;1,000";
        Check.is("5 a lane is one digit", Check.rocks(z, zero), -1 - 75);
        String bad = "100,1;".repeat(11) + "1,1;1,1;000,1";
        Check.is("5 three noughts, longer than the cut", Check.rocks(z, bad), -1 - 76);
        String last = "100,1;".repeat(11) + "10,1;10,1;0,1";
        Check.is("5 a nought behind the cut", Check.rocks(z, last), -1 - 76);
        String third = "100,1;".repeat(10) + "100,1;100,1;1,1;1,1;";
        Check.is("5 80 signs, too early at 76", Check.rocks(z, third), -1 - 76);
        String atCut = "100,1;".repeat(10) + "10,1;1,1;1,1;000,1";
        Check.is("5 three noughts end at the cut", Check.rocks(z, atCut), -1 - 75);
        Check.is("5 nothing came", z.count(3), 0);
    }

    private static void p6() {
        NobodyBeenAft x = make();
        Check.is("6 nothing", x.messes(), 0);
        Check.is("6 two", Check.messes(x, "50*5;0*0"), 2);
        Check.is("6 one more", Check.messes(x, "07*9"), 1);
        Check.is("6 behind the others", x.mess(2, 0), 7);
        String[] wrong = {"x", "5", "5*", "5*x", "5*3;", "5*3;x", "123*4", "5*33", "5,3", "*"};
        int[] due = {0, 1, 2, 2, 4, 4, 2, 3, 1, 0};
        for (int i = 0; i < wrong.length; i++) {
            Check.is("6 " + wrong[i], Check.messes(x, wrong[i]), -1 - due[i]);
            Check.is("6 read all the same " + i, x.count(12), 0);
        }
        Check.is("6 no room", Check.messes(x, "1*1;1*1;1*1;1*1;1*1;1*1"), -1 - 20);
        Check.is("6 nothing of it comes", x.count(4), 3);
        Check.is("6 room", Check.messes(x, "1*1;1*1;1*1;1*1;1*1"), 5);
        Check.is("6 none for one", Check.messes(x, "1*1"), -1);
        NobodyBeenAft y = make();
        String full = "10*1;".repeat(7) + "10*1";
        Check.is("6 40 signs", Check.messes(y, full + ";"), -1 - 39);
        Check.is("6 40 signs, a fault there", Check.messes(y, full + "x"), -1 - 39);
        Check.is("6 40 signs, a fault ahead", Check.messes(y, "10*1;".repeat(7) + "10*xx"), -1 - 38);
        Check.is("6 nine at once", Check.messes(y, "1*1;".repeat(8) + "1*1"), -1 - 32);
        Check.is("6 eight and ;", Check.messes(y, "1*1;".repeat(8)), -1 - 32);
        Check.is("6 39 signs", Check.messes(y, full), 8);
        Check.is("6 the text is read", y.count(12), 0);
        NobodyBeenAft z = make();
        Check.messes(z, "1*9");
        z.steps(3);
        Check.messes(z, "1*9");
        Check.is("6 hungry of old", z.mess(0, 2), 3);
        Check.is("6 hungry at first", z.mess(1, 2), 0);
    }

    private static int delay(String rule) {
        NobodyBeenAft x = liar();
        int n = Check.rule(x, rule);
        return n == 0 ? x.delay() : n;
    }

    private static int minus(int v, int below) {
        return below < 0 ? v - 1 : v;
    }

    private static void p7() {
        Check.is("7 none", delay(""), 3);
        String[] good = {"1", "012", "999", "l/8", "p", "x+x", "n+4", "-1", "--7", "1--1", "2*-3+9", "2+3*2", "9-3-2",
            "12/2/3", "7/0+4", "-7/2+9", "(1+2)*3", "((((5))))", "1<2", "2<1", "5>2+1", "3=3", "3=2+2", "(1<2)+(2<3)",
            "(1<2)<3", "4-3>0", "999*999*999*999", "2*(3<4)+1", "0-(-5)", "l-p-x-9", "x=1", "-(1-5)", "-2*-3", "8/-2+6",
            "(((1)))+(((2)))", "1+2<3", "(1<2)=(3<4)", "46340*1", "2+(3=3)*5", "2+(3=4)*5",
            "2+(1<2)*5", "2+(2<2)*5", "2+(2>1)*5", "2+(2>2)*5", "0+7", "7-0", "65536*65536+5", "3-(999*999*999*999*9<0)"};
        int[] due = {1, 12, 12, 2, 3, 2, 4, 1, 7, 2, 3, 8, 4, 2, 4, 6, 9, 5, 1, 1, 1, 1, 1, 2, 1, 1, 1, 3, 5, 4, 1, 4,
            6, 2, 3, 1, 1, -1 - 3, 7, 2, 7, 2, 7, 2, 7, 7, -1 - 3, minus(3, 999 * 999 * 999 * 999 * 9)};
        for (int i = 0; i < good.length; i++) {
            Check.is("7 " + good[i], delay(good[i]), due[i]);
        }
        String[] wrong = {"x-", "+1", "1+", "1234", "(1", "1)", "()", "(((((1)))))", "1<2<3", "1<2=3", "(1<2<3)", "a",
            "l8", "1 ", "ll", "2*", "-", "((1)", "1<", "<1", "(1+2", "1=(2=3)=4"};
        int[] at = {2, 0, 2, 3, 2, 1, 1, 4, 3, 3, 4, 0, 1, 1, 1, 2, 1, 4, 2, 0, 4, 7};
        for (int i = 0; i < wrong.length; i++) {
            Check.is("7 " + wrong[i], delay(wrong[i]), -1 - at[i]);
        }
        String full = "1" + "+1".repeat(19);
        Check.is("7 39 signs", delay(full), 12);
        Check.is("7 40 signs", delay("-" + full), 12);
        Check.is("7 41 signs", delay("--" + full), -1 - 40);
        Check.is("7 cut behind +", delay(full + "+1"), -1 - 40);
        Check.is("7 cut in brackets", delay("((" + "+1".repeat(19)), -1 - 2);
        Check.is("7 cut in open brackets", delay("((1" + "+1".repeat(19)), -1 - 40);
        NobodyBeenAft x = liar();
        Check.rule(x, "9");
        Check.is("7 refused", Check.rule(x, "9+"), -3);
        Check.is("7 the text is read", x.count(12), 0);
        Check.is("7 the rule stays", x.delay(), 9);
        x.order(1);
        Check.is("7 an empty one", Check.rule(x, ""), 0);
        Check.is("7 none again", x.delay(), 3);
        Check.is("7 an order comes as it was given", x.way(0, 0), 9);
    }

    private static boolean among(int sign, String signs) {
        return signs.indexOf(sign) >= 0;
    }

    /** Each of the 256 signs, where one of some kind is due: no other one can stand there. */
    private static void signs() {
        String digits = "0123456789";
        for (int i = 0; i < 256; i++) {
            NobodyBeenAft x = make();
            char c = (char) i;
            String what = " sign " + i + " ";
            Check.is("7" + what, Check.rule(x, "" + c), among(i, digits + "lpxn") ? 0 : among(i, "-(") ? -2 : -1);
            Check.is("7 behind" + what, Check.rule(x, "1" + c + "2"),
                among(i, digits + "+-*/<>=") ? 0 : -2);
            Check.is("7 in brackets" + what, Check.rule(x, "(1" + c + "+2)"),
                among(i, digits) ? 0 : among(i, "+*/<>=)") ? (i == ')' ? -6 : -4) : i == '-' ? -4 : -3);
            Check.is("18" + what, Check.voyage(x, "" + c), among(i, "<=>123456789") ? 1 : i == 'p' ? -2 : -1);
            Check.is("18 behind p" + what, Check.voyage(x, "p" + c), among(i, digits) ? 0 : -2);
            Check.is("4" + what, Check.ship(x, "" + c), among(i, "23456789") ? 0 : -1);
            Check.is("4 behind" + what, Check.ship(x, "3" + c), among(i, digits) ? 0
                : i == ',' ? -3 : -2);
            Check.is("4 a cell" + what, Check.ship(x, "9," + c), among(i, "012345678") ? 1 : -3);
            Check.is("4 a liar" + what, Check.ship(x, "39,1" + c), among(i, digits + "*") ? 1 : i == ',' ? -6 : -5);
            Check.is("5" + what, Check.rocks(x, c + ",1"), among(i, "123456789") ? 1 : -1);
            Check.is("5 a lane" + what, Check.rocks(make(), "1," + c), among(i, "012345678") ? 1 : -3);
            Check.is("5 behind" + what, Check.rocks(make(), "1,1" + c), i == ';' ? -5 : -4);
            Check.is("6" + what, Check.messes(make(), c + "*1"), among(i, digits) ? 1 : -1);
            Check.is("6 eats" + what, Check.messes(make(), "1*" + c), among(i, digits) ? 1 : -3);
            Check.is("6 behind" + what, Check.messes(make(), "1*1" + c), i == ';' ? -5 : -4);
        }
    }

    private static void p8to10() {
        NobodyBeenAft x = liar();
        Check.rocks(x, "7,2;9,3");
        Check.messes(x, "10*4;3*9");
        x.steps(2);
        Check.is("8 CELL", x.post(1, 0), 8);
        Check.is("8 LIAR", x.post(1, 1), 1);
        Check.is("8 no LIAR", x.post(2, 1), 0);
        Check.is("9 MILE", x.rock(1, 0), 9);
        Check.is("9 LANE", x.rock(1, 1), 3);
        Check.is("9 the first MILE", x.rock(0, 0), 7);
        Check.is("9 the first LANE", x.rock(0, 1), 2);
        Check.is("10 FOOD", x.mess(0, 0), 2);
        Check.is("10 EATS", x.mess(1, 1), 9);
        Check.is("10 HUNGRY", x.mess(1, 2), 2);
        for (int[] a : new int[][] {{-1, 0}, {3, 0}, {0, -1}, {0, 2}, {0, Integer.MAX_VALUE}}) {
            Check.none("8 post", () -> x.post(a[0], a[1]));
        }
        for (int[] a : new int[][] {{-1, 0}, {2, 0}, {0, -1}, {0, 2}, {Integer.MIN_VALUE, 0}}) {
            Check.none("9 rock", () -> x.rock(a[0], a[1]));
        }
        for (int[] a : new int[][] {{-1, 0}, {2, 0}, {0, -1}, {0, 3}}) {
            Check.none("10 mess", () -> x.mess(a[0], a[1]));
        }
    }

    private static void p11() {
        NobodyBeenAft x = make();
        Check.rule(x, "12-n*3");
        Check.is("11 the first", x.order(1), 12);
        x.steps(1);
        Check.is("11 the second", x.order(-1), 9);
        x.steps(1);
        Check.rule(x, "10");
        Check.is("11 the third", x.order(0), 10);
        Check.is("11 due first", x.way(0, 0), 8);
        Check.is("11 what it is", x.way(0, 1), -1);
        Check.is("11 of like ones the first given", x.way(1, 0), 10);
        Check.is("11 what it is then", x.way(1, 1), 1);
        Check.is("11 the last given", x.way(2, 1), 0);
        Check.none("11 none such", () -> x.way(3, 0));
        Check.none("11 below 0", () -> x.way(-1, 0));
        Check.none("11 another what", () -> x.way(0, 2));
        Check.none("11 what below 0", () -> x.way(0, -1));
    }

    private static void p12() {
        NobodyBeenAft x = make();
        Check.is("12 missing, no messes", x.sheet(3, 0, 0, 0), -3);
        Check.messes(x, "1*1;2*2;3*3;4*4");
        Check.is("12 n below 0", x.sheet(0, -1, 5, 0), -2);
        Check.is("12 nothing changes", x.mess(3, 1), 4);
        Check.is("12 another kind", x.sheet(4, -1, 5, 0), NONE);
        Check.is("12 kind below 0", x.sheet(-1, 0, 5, 0), NONE);
        Check.is("12 n above 8", x.sheet(0, 9, 5, 0), NONE);
        Check.is("12 n above 8 ahead of missing", x.sheet(3, 9, 5, 0), NONE);
        Check.is("12 they stay", x.mess(3, 1), 4);
        Check.is("12 bytes 127, 128: 9, 0", x.sheet(0, 4, 126, 1), 18);
        Check.is("12 the third byte is below 0", x.mess(2, 1), 0);
        Check.is("12 bytes go round", x.sheet(0, 2, 259, 256), 6);
        Check.is("12 shorts 32767, -32768", x.sheet(1, 2, 32767, 1), 9);
        Check.is("12 shorts go round", x.sheet(1, 1, 65541, 0), 5);
        Check.is("12 bytes of a short", x.sheet(0, 1, 200, 0), 0);
        Check.is("12 shorts of a byte", x.sheet(1, 1, 200, 0), 9);
        Check.is("12 ints", x.sheet(2, 3, 65541, 0), 27);
        Check.is("12 those behind have 0", x.mess(3, 1), 0);
        Check.is("12 ints go round", x.sheet(2, 2, Integer.MAX_VALUE, 1), 9);
        Check.is("12 below 0", x.sheet(2, 4, 3, -2), 4);
        Check.is("12 more entries than messes", x.sheet(2, 8, 1, 0), 4);
        Check.is("12 none of them", x.sheet(2, 0, 1, 0), 0);
        x.sheet(2, 4, 1, 1);
        Check.is("12 missing", x.sheet(3, -1, 5, 5), -3);
        Check.is("12 all 0", x.mess(0, 1) + x.mess(1, 1) + x.mess(2, 1) + x.mess(3, 1), 0);
    }

    // ---- steps

    private static void steps() {
        p13();
        p14();
        p15to16();
        p17();
        p18();
        p19();
    }

    private static void p13() {
        int[] longs = {2, 7, 8, 15, 16, 40};
        int[] due = {1, 1, 2, 2, 3, 6};
        for (int i = 0; i < longs.length; i++) {
            NobodyBeenAft x = make();
            Check.ship(x, "" + longs[i]);
            Check.is("13 LONG " + longs[i], x.delay(), due[i]);
        }
        NobodyBeenAft x = at(11);
        Check.rule(x, "n");
        Check.is("13 n 11", x.delay(), 11);
        x.steps(1);
        Check.is("13 n 12 is 0, and least 1", x.delay(), 1);
        x.steps(2);
        Check.is("13 n 14 is 2", x.delay(), 2);
    }

    private static void p14() {
        NobodyBeenAft x = liar();
        Check.is("14 above", x.order(2), NONE);
        Check.is("14 below", x.order(-2), NONE);
        Check.is("14 given", x.order(1), 3);
        Check.is("14 turned round", x.way(0, 1), -1);
        Check.is("14 one was given", x.order(1), -2);
        Check.is("14 even one that is none", x.order(0), -2);
        Check.is("14 others first", x.order(5), NONE);
        Check.is("14 under way", x.count(8), 1);
        NobodyBeenAft y = make();
        Check.ship(y, "9,1*,3*");
        y.order(-1);
        Check.is("14 turned round twice", y.way(0, 1), -1);
        Check.ship(y, "9,1*,3*,5*");
        y.steps(1);
        y.order(-1);
        Check.is("14 turned round three times", y.way(1, 1), 1);
        NobodyBeenAft z = make();
        Check.rule(z, "12");
        z.order(1);
        for (int i = 1; i < 12; i++) {
            z.steps(1);
            Check.is("14 order " + i, z.order(i % 2), 12);
        }
        Check.is("14 12 and given now", z.order(0), -2);
        Check.is("14 12 under way", z.count(8), 12);
        z.steps(1);
        Check.is("14 the first one is done", z.order(1), 12);
        Check.rule(z, "n+12");
        NobodyBeenAft full = make();
        Check.rule(full, "12");
        full.order(0);
        for (int i = 1; i < 12; i++) {
            full.steps(1);
            full.order(0);
        }
        full.keep(0);
        full.undo();
        full.undo();
        Check.is("14 room again", full.count(8), 11);
        NobodyBeenAft late = make();
        Check.rule(late, "12-n");
        late.order(1);
        late.steps(1);
        Check.is("14 DELAY as given", late.order(-1), 11);
        Check.is("14 both are due at 12", late.way(0, 0), late.way(1, 0));
    }

    private static void p15to16() {
        NobodyBeenAft x = make();
        Check.messes(x, "50*5;90*9;80*0");
        Check.is("15 aft", x.pass(0, 9, 1), 41);
        Check.is("15 it comes", x.mess(1, 0), 99);
        Check.is("15 too much there", x.pass(0, 1, 1), -3);
        Check.is("15 not so much", x.pass(0, 42, 1), -2);
        Check.is("15 not so much ahead of too much", x.pass(0, 99, 1), -2);
        Check.is("15 forward", x.pass(1, 58, 0), 41);
        Check.is("15 up to 99", x.mess(0, 0), 99);
        Check.is("15 all", x.pass(1, 41, 0), -3);
        Check.is("15 all of it", x.pass(2, 80, 0), -3);
        Check.is("15 all that is there", x.pass(1, 19, 1), 22);
        int[][] wrong = {{0, 1, 0}, {2, 1, 1}, {-1, 1, 1}, {3, 1, 0}, {3, 1, 1}, {0, 0, 1}, {0, 100, 1}, {0, 1, 2},
            {0, 1, -1}, {1, 1, 2}, {1, 1, -1}, {0, -5, 1}, {Integer.MAX_VALUE, 1, 1}, {-2, 1, 0}};
        for (int[] a : wrong) {
            Check.is("15 " + a[0] + " " + a[1] + " " + a[2], x.pass(a[0], a[1], a[2]), NONE);
        }
        Check.is("15 none changed", x.count(10), 3);
        Check.is("16 it had", x.cook(0, 0), 99);
        Check.is("16 it has", x.cook(0, 99), 0);
        Check.is("16 none such", x.cook(3, 5), NONE);
        Check.is("16 below 0", x.cook(-1, 5), NONE);
        Check.is("16 too much", x.cook(0, 100), NONE);
        Check.is("16 too little", x.cook(0, -1), NONE);
        Check.is("16 it stays", x.mess(0, 0), 99);
        Check.is("16 none without messes", make().cook(0, 5), NONE);
    }

    private static void p17() {
        NobodyBeenAft x = make();
        Check.rocks(x, "2,4;2,4;3,5;3,4;60,5");
        Check.messes(x, "10*4;0*1;5*0");
        x.order(1);
        Check.is("17 at once", x.steps(1), 5);
        Check.row("17", x, 0, 1);
        Check.is("17 two more", x.steps(2), 5);
        Check.row("17 hungry", x, 1, 3);
        Check.is("17 all is eaten", x.mess(0, 0), 0);
        Check.is("17 hungry once", x.mess(0, 2), 1);
        Check.is("17 hungry all the time", x.mess(1, 2), 3);
        Check.is("17 who eats nothing is not", x.mess(2, 2), 0);
        Check.is("17 his food stays", x.mess(2, 0), 5);
        Check.is("17 none", x.steps(0), 5);
        Check.row("17 none", x, 0, 0);
        Check.is("17 61", x.steps(61), NONE);
        Check.is("17 below 0", x.steps(-1), NONE);
        Check.row("17 the row stays", x, 0, 0);
        Check.is("17 60", x.steps(60), 5);
        Check.row("17 60", x, 1, 120);
        Check.is("17 now", x.count(5), 63);
        Check.is("17 hits", x.count(7), 2);
        Check.is("17 lane", x.count(6), 5);
        NobodyBeenAft both = make();
        Check.rocks(both, "1,4;1,4");
        both.steps(1);
        Check.is("17 each rock counts", both.count(7), 2);
        NobodyBeenAft sea = make();
        Check.rule(sea, "5-n");
        for (int v : new int[] {1, 1, 1, 1}) {
            sea.order(v);
            sea.steps(1);
        }
        Check.is("17 all come at once", sea.steps(1), 8);
        Check.rule(sea, "9-n");
        sea.order(1);
        sea.steps(1);
        sea.order(-1);
        Check.is("17 beyond she stays, the first given first", sea.steps(5), 7);
        NobodyBeenAft other = make();
        Check.rule(other, "1");
        for (int i = 0; i < 5; i++) {
            other.order(-1);
            other.steps(1);
        }
        Check.is("17 the least lane", other.count(6), 0);
        Check.rule(other, "10-n");
        other.order(-1);
        other.steps(1);
        other.order(1);
        Check.is("17 from lane 0", other.steps(5), 1);
    }

    private static void p18() {
        NobodyBeenAft x = make();
        Check.is("18 nothing", Check.voyage(x, ""), 0);
        Check.row("18 nothing", x, 0, 0);
        Check.is("18 it can't be undone", x.undo(), NONE);
        Check.messes(x, "3*1;98*0;5*9");
        Check.rocks(x, "1,5;3,5");
        Check.is("18 some", Check.voyage(x, ">1p0=2"), 5);
        Check.row("18 some", x, 0, 2);
        Check.is("18 one passed", x.mess(1, 0), 99);
        Check.is("18 refused", Check.voyage(x, "<<1"), 1);
        Check.row("18 refused", x, 1, 0);
        Check.is("18 the text is read", x.count(12), 0);
        Check.is("18 now", x.count(5), 3);
        Check.is("18 refused at once", Check.voyage(x, "="), 0);
        Check.row("18 refused at once", x, 1, 0);
        Check.is("18 that is none to be undone", x.count(10), 2);
        Check.is("18 no such mess", Check.voyage(x, "1p9"), 1);
        Check.row("18 no such mess", x, 1, 0);
        Check.is("18 none behind the last", Check.voyage(x, "p2"), 0);
        x.cook(0, 5);
        Check.is("18 the other has 99", Check.voyage(x, "p0"), 0);
        x.cook(1, 0);
        Check.is("18 nothing to be passed", Check.voyage(x, "p1"), 0);
        String[] wrong = {"0", "x", "p", "1p", "px", "1<>0", "p1p", "1 "};
        int[] due = {0, 0, 1, 2, 1, 3, 3, 1};
        NobodyBeenAft y = make();
        Check.voyage(y, "1");
        for (int i = 0; i < wrong.length; i++) {
            Check.is("18 " + wrong[i], Check.voyage(y, wrong[i]), -1 - due[i]);
        }
        Check.is("18 nothing is done then", y.count(5), 1);
        Check.row("18 the row stays", y, 0, 0);
        Check.is("18 the text is read", y.count(12), 0);
        Check.is("18 60 signs", Check.voyage(y, "9".repeat(60)), 60);
        Check.is("18 all of them", y.count(5), 541);
        Check.is("18 61 signs", Check.voyage(y, "9".repeat(61)), -1 - 60);
        Check.is("18 80 signs", Check.voyage(y, "9".repeat(80)), -1 - 60);
        Check.is("18 cut behind p", Check.voyage(y, "9".repeat(59) + "p0"), -1 - 60);
        Check.is("18 a fault at 59", Check.voyage(y, "9".repeat(59) + "00"), -1 - 59);
        Check.is("18 too early at 60", Check.voyage(y, "9".repeat(59) + "p"), -1 - 60);
        Check.is("18 nothing was done", y.count(5), 541);
        NobodyBeenAft digits = make();
        Check.messes(digits, "9*0;9*0;9*0");
        Check.is("18 one digit behind p", Check.voyage(digits, "p01"), 2);
        Check.is("18 the first passes", digits.mess(0, 0), 8);
        Check.is("18 one step", digits.count(5), 1);
        NobodyBeenAft z = liar();
        Check.voyage(z, "<");
        Check.is("18 a liar turns it round", z.way(0, 1), 1);
    }

    private static void p19() {
        NobodyBeenAft x = liar();
        Check.is("19 nothing", x.undo(), NONE);
        Check.messes(x, "9*4;2*3");
        Check.rocks(x, "1,4;2,4");
        x.order(1);
        x.pass(0, 1, 1);
        x.cook(1, 50);
        x.order(7);
        x.pass(0, 0, 1);
        x.cook(0, 100);
        x.steps(61);
        x.steps(2);
        Check.voyage(x, ">2p0x");
        Check.voyage(x, "=2p01");
        Check.is("19 hits", x.count(7), 2);
        Check.is("19 lane", x.count(6), 3);
        Check.is("19 a voyage is one", x.undo(), 4);
        Check.is("19 now", x.count(5), 2);
        Check.is("19 lane again", x.count(6), 4);
        Check.is("19 steps", x.undo(), 3);
        Check.is("19 hits again", x.count(7), 0);
        Check.is("19 food again", x.mess(0, 0), 8);
        Check.is("19 cook", x.undo(), 2);
        Check.is("19 food", x.mess(1, 0), 3);
        Check.is("19 pass", x.undo(), 1);
        Check.is("19 food forward", x.mess(0, 0), 9);
        Check.is("19 order", x.undo(), 0);
        Check.is("19 none under way", x.count(8), 0);
        Check.is("19 no more", x.undo(), NONE);
        Check.is("19 it may be given again", x.order(-1), 3);
        for (int i = 0; i < 20; i++) {
            x.steps(1);
        }
        Check.is("19 15 are kept", x.count(10), 15);
        for (int i = 14; i >= 0; i--) {
            Check.is("19 left", x.undo(), i);
        }
        Check.is("19 five are forgotten", x.count(5), 5);
        Check.is("19 hungry as it was", x.mess(0, 2), 3);
        x.steps(0);
        Check.is("19 no step is one as well", x.count(10), 1);
        Check.messes(x, "x");
        Check.messes(x, "");
        Check.is("19 these forget nothing", x.count(10), 1);
        Check.messes(x, "1*1");
        Check.is("19 new messes do", x.undo(), NONE);
        x.keep(0);
        x.steps(1);
        x.again(1);
        Check.is("19 a refused again forgets nothing", x.count(10), 1);
        x.again(0);
        Check.is("19 again does", x.count(10), 0);
        under();
        x.sheet(2, 1, 5, 0);
        x.steps(1);
        x.sheet(2, 1, 7, 0);
        x.undo();
        Check.is("19 what they eat stays", x.mess(0, 1), 7);
    }

    private static void under() {
        NobodyBeenAft x = make();
        Check.rule(x, "5");
        x.order(-1);
        x.steps(1);
        Check.rule(x, "7");
        x.order(1);
        x.keep(1);
        x.steps(4);
        Check.is("19 one is done", x.count(8), 1);
        Check.is("19 the other is next", x.way(0, 0), 3);
        Check.is("19 it is 1", x.way(0, 1), 1);
        x.steps(3);
        x.undo();
        Check.is("19 one under way again", x.way(0, 0), 3);
        x.undo();
        for (int i = 0; i < 2; i++) {
            Check.is("19 both under way again", x.count(8), 2);
            Check.is("19 when the first is due", x.way(0, 0), 4);
            Check.is("19 what the first is", x.way(0, 1), -1);
            Check.is("19 when the second is due", x.way(1, 0), 7);
            Check.is("19 what the second is", x.way(1, 1), 1);
            Check.is("19 one was given", x.order(0), -2);
            x.steps(7);
            x.again(1);
        }
    }

    // ---- where she will be

    private static void ahead() {
        p20to21();
        p22();
        p23();
        p24();
        p25();
        p26();
        p27to28();
    }

    private static void p20to21() {
        NobodyBeenAft x = make();
        Check.rule(x, "3");
        Check.rocks(x, "5,4;2,4;4,5;4,5;999,5");
        x.order(1);
        Check.is("20 ahead of it", x.lane(2), 4);
        Check.row("20 ahead of it", x, 1);
        Check.is("20 behind it", x.lane(3), 5);
        Check.is("20 far", x.lane(60), 5);
        Check.row("20 far", x, 3);
        Check.is("20 none", x.lane(0), 4);
        Check.row("20 none", x, 0);
        Check.is("20 61", x.lane(61), NONE);
        Check.is("20 below 0", x.lane(-1), NONE);
        Check.is("21 soonest", x.strikes(), 2);
        Check.row("21 soonest", x, 1);
        x.steps(2);
        Check.is("21 not the one that she is at", x.strikes(), 2);
        Check.row("21 the first such", x, 2);
        x.steps(4);
        Check.is("21 the last", x.strikes(), 993);
        Check.row("21 the last", x, 4);
        Check.is("20 nothing changes", x.count(5), 6);
        x.order(1);
        Check.is("21 none", x.strikes(), -2);
        Check.row("21 the row stays", x, 4);
        NobodyBeenAft near = at(2);
        Check.rocks(near, "3,4;2,4;4,4");
        Check.is("20 the next step", near.lane(1), 4);
        Check.row("20 not the one at now", near, 1);
        near.lane(2);
        Check.row("20 the step behind it", near, 2);
        Check.is("21 the next step", near.strikes(), 1);
        Check.row("21 the next step", near, 0);
        NobodyBeenAft y = make();
        Check.rocks(y, "999,4");
        Check.is("21 999", y.strikes(), 999);
        Check.is("20 beyond 60 it is not seen", y.lane(60), 4);
        Check.row("20 beyond 60", y, 0);
    }

    /** As many ROCKS, POSTS and MESSES as there may be. */
    private static void fullShip() {
        NobodyBeenAft x = make();
        Check.ship(x, "40,10*,11*,12*,13*,14*,15*,16*,17*,18*,19*");
        Check.rule(x, "1");
        Check.rocks(x, "2,4;".repeat(15) + "2,3");
        Check.messes(x, "10*1;10*1;10*1;10*1;10*1;10*1;10*1;26*1");
        Check.is("20 full", x.lane(60), 4);
        Check.row("20 full", x, 15);
        Check.is("21 full", x.strikes(), 2);
        Check.is("22 full", x.clears(), 0xffff);
        Check.is("23 full", x.plan(2), 1);
        Check.row("23 full", x, 0, 1);
        Check.is("26 full", x.safest(2), 5);
        Check.row("26 full", x, 0, 15);
        x.comes(12);
        Check.row("28 full", x, 10, 0);
        Check.is("33 full", x.lives(0), 10);
        Check.is("33 full aft", x.lives(1), 10);
        Check.is("33 full forward", x.lives(2), 12);
        Check.is("33 full both", x.lives(3), 12);
        Check.is("34 full", x.shares(12), 56);
        Check.row("34 full", x, -2, -4, -6, -8, -10, -12, -14);
        Check.is("35 full", x.fast(13), 1);
        Check.row("35 full", x, 1, 5);
        Check.is("35 full, all", x.fast(99), 255);
        Check.is("12 full", x.sheet(2, 8, 9, 0), 72);
        Check.is("17 full", x.steps(3), 4);
        Check.row("17 full", x, 15, 15);
    }

    private static void p22() {
        fullShip();
        NobodyBeenAft x = make();
        Check.rule(x, "3");
        Check.is("22 none", x.clears(), 0);
        Check.row("22 none", x, 0);
        Check.rocks(x, "1,4;2,4;3,4;999,4;1,5");
        Check.is("22 too near", x.clears(), 0b11100);
        Check.row("22 too near", x, 0b00011);
        x.order(0);
        Check.is("22 one was given now", x.clears(), 0b11000);
        Check.row("22 one was given now", x, 0b00111);
        x.steps(1);
        Check.is("22 ahead alone", x.clears(), 0b01000);
        Check.row("22 ahead alone", x, 0b00110);
        NobodyBeenAft y = make();
        Check.rule(y, "4");
        y.order(-1);
        for (int i = 0; i < 3; i++) {
            y.steps(1);
            y.order(-1);
        }
        Check.rocks(y, "7,0;8,0;7,1");
        Check.is("22 those under way bring her to one lane", y.clears(), 0b110);
        Check.row("22 one lane", y, 0b001);
        NobodyBeenAft wall = make();
        Check.rocks(wall, "2,3;2,4;2,5;2,2;2,6");
        Check.is("22 each rock by itself", wall.clears(), 0b11111);
        NobodyBeenAft over = at(30);
        Check.rocks(over, "30,4;31,4");
        Check.is("22 not the one at now", over.clears(), 0b10);
    }

    private static void p23() {
        NobodyBeenAft x = make();
        Check.is("23 0", x.plan(0), NONE);
        Check.is("23 31", x.plan(31), NONE);
        Check.is("23 nothing to be done", x.plan(30), 0);
        Check.is("23 30 numbers", x.count(11), 30);
        Check.rocks(x, "3,4");
        Check.is("23 one", x.plan(4), 1);
        Check.row("23 the least row", x, -1, 0, 0, 0);
        Check.rocks(x, "3,3;3,5;3,2");
        Check.is("23 two", x.plan(4), 2);
        Check.row("23 forward", x, 0, 1, 1, 0);
        Check.is("23 behind the rocks", x.plan(2), 0);
        Check.row("23 behind the rocks", x, 0, 0);
        Check.rocks(x, "1,4");
        Check.is("23 at once", x.plan(1), 1);
        Check.row("23 at once", x, -1);
        x.order(0);
        Check.is("23 one was given now", x.plan(1), -2);
        Check.row("23 the row stays", x, -1);
        NobodyBeenAft liar = liar();
        Check.rocks(liar, "4,4;4,5");
        Check.is("23 a liar", liar.plan(4), 1);
        Check.row("23 as they are given", liar, 0, 1, 0, 0);
        NobodyBeenAft three = make();
        Check.ship(three, "9,1*,3*,5*");
        Check.rule(three, "1");
        Check.rocks(three, "1,4;1,5");
        Check.is("23 three liars", three.plan(1), 1);
        Check.row("23 three liars", three, 1);
        three.steps(1);
        Check.is("23 another look", three.plan(1), 0);
        Check.is("25 another look", three.lanes(1), 0b111000);
        NobodyBeenAft under = make();
        Check.rule(under, "2");
        under.order(1);
        under.steps(1);
        Check.rocks(under, "4,5;3,5");
        Check.is("23 besides one under way", under.plan(3), 1);
        Check.row("23 besides one under way", under, -1, 0, 0);
        Check.is("23 only one of the two", under.plan(2), 1);
        NobodyBeenAft far = make();
        Check.rule(far, "12");
        Check.rocks(far, "30,4");
        Check.is("25 30 steps", far.lanes(30), 511 - 16);
        Check.is("23 the last step", far.plan(30), 1);
        Check.is("24 the last step", far.latest(30), 18);
        Check.rocks(far, "29,3;29,5;29,4");
        Check.is("23 30 steps", far.plan(30), 2);
        Check.is("23 the last is given", far.row(0), -1);
        Check.is("23 the next is given", far.row(1), -1);
        NobodyBeenAft edge = make();
        for (int i = 0; i < 4; i++) {
            edge.order(1);
            edge.steps(1);
        }
        Check.rocks(edge, "6,8;7,8;8,7");
        Check.is("23 at the edge", edge.plan(4), 2);
        Check.row("23 at the edge", edge, -1, -1, 0, 0);
    }

    /** In LANE 0 (aft by -1) or 8, with one order under way that pushes on. */
    private static NobodyBeenAft edge(int v) {
        NobodyBeenAft x = make();
        for (int i = 0; i < 4; i++) {
            x.order(v);
            x.steps(1);
        }
        Check.rule(x, "2");
        x.order(v);
        x.steps(1);
        return x;
    }

    private static void edges() {
        NobodyBeenAft x = edge(-1);
        Check.is("25 she stays at 0", x.lanes(1), 1);
        Check.is("25 from 0", x.lanes(3), 0b111);
        Check.rocks(x, "7,0");
        Check.is("23 away from 0", x.plan(2), 1);
        Check.row("23 away from 0", x, 1, 0);
        Check.rocks(x, "8,1");
        Check.is("23 back to 0", x.plan(3), 2);
        Check.row("23 back to 0", x, 1, -1, 0);
        Check.is("22 all can be cleared", x.clears(), 3);
        NobodyBeenAft y = edge(1);
        Check.is("25 she stays at 8", y.lanes(1), 256);
        Check.is("25 from 8", y.lanes(3), 0b111000000);
        Check.rocks(y, "7,8");
        Check.is("23 away from 8", y.plan(2), 1);
        Check.row("23 away from 8", y, -1, 0);
        Check.rocks(y, "8,7");
        Check.is("23 back to 8", y.plan(3), 2);
        Check.row("23 the least row goes on", y, -1, -1, 0);
        Check.rocks(y, "8,6");
        Check.is("23 only 8 is left", y.plan(3), 2);
        Check.row("23 only 8 is left", y, -1, 1, 0);
        NobodyBeenAft there = make();
        for (int i = 0; i < 3; i++) {
            there.order(1);
            there.steps(1);
        }
        Check.rocks(there, "4,7;4,6;5,8");
        Check.is("23 to 8 and back", there.plan(2), 2);
        Check.row("23 to 8 and back", there, 1, -1);
        NobodyBeenAft z = make();
        Check.rule(z, "6");
        z.order(1);
        z.steps(1);
        Check.rule(z, "5-n");
        z.order(1);
        z.steps(1);
        Check.rocks(z, "8,6;8,5");
        Check.is("23 two under way, the later given first due", z.plan(6), 1);
        Check.row("23 two under way", z, 0, 0, 0, 0, 0, 1);
    }

    private static void p24() {
        edges();
        NobodyBeenAft x = make();
        Check.is("24 one", x.latest(1), 0);
        Check.is("24 0", x.latest(0), NONE);
        Check.is("24 31", x.latest(31), NONE);
        Check.is("24 nothing in the way", x.latest(30), 29);
        Check.rule(x, "3");
        Check.rocks(x, "9,4");
        Check.is("24 in time", x.latest(10), 6);
        Check.is("24 not seen", x.latest(8), 7);
        Check.rocks(x, "9,3;9,5");
        Check.is("24 two are needed", x.latest(9), 5);
        Check.rocks(x, "2,4");
        Check.is("24 too late", x.latest(2), -2);
        NobodyBeenAft y = make();
        Check.rocks(y, "2,4");
        y.order(0);
        Check.is("24 in the next", y.latest(2), 1);
        Check.rocks(y, "1,4");
        Check.is("24 one was given now", y.latest(2), -2);
        NobodyBeenAft z = make();
        Check.rocks(z, "1,4");
        Check.is("24 now", z.latest(2), 0);
    }

    private static void p25() {
        NobodyBeenAft x = make();
        Check.is("25 below 0", x.lanes(-1), NONE);
        Check.is("25 31", x.lanes(31), NONE);
        Check.is("25 here", x.lanes(0), 0b10000);
        Check.row("25 here", x, 1);
        Check.is("25 two steps", x.lanes(2), 0b1111100);
        Check.row("25 two steps", x, 5);
        Check.is("25 all", x.lanes(30), 511);
        Check.row("25 all", x, 9);
        Check.rocks(x, "1,3;1,5;2,4");
        Check.is("25 between rocks", x.lanes(2), 0b101000);
        Check.row("25 between rocks", x, 2);
        Check.rocks(x, "1,4");
        Check.is("25 shut in", x.lanes(2), 0);
        Check.row("25 shut in", x, 0);
        NobodyBeenAft y = make();
        Check.rule(y, "5-n");
        Check.is("25 many at once", y.lanes(5), 511);
        Check.is("25 ahead of them", y.lanes(4), 16);
        y.order(1);
        Check.is("25 one was given now", y.lanes(5), 0b111111110);
    }

    private static void p26() {
        NobodyBeenAft x = make();
        Check.is("26 0", x.safest(0), NONE);
        Check.is("26 1000", x.safest(1000), NONE);
        Check.is("26 one", x.safest(1), 4);
        Check.is("26 hers", x.safest(999), 4);
        Check.row("26 hers", x, 0, 0);
        Check.rocks(x, "1,4;9,4;9,3;7,5");
        Check.is("26 as near ones the lesser", x.safest(9), 2);
        Check.row("26 as near ones the lesser", x, 0, 2);
        Check.is("26 up to n", x.safest(8), 3);
        Check.row("26 up to n", x, 0, 1);
        x.steps(1);
        Check.is("26 not the one at now", x.safest(7), 4);
        Check.rocks(x, "9,0;9,1;9,2;9,5;9,6;9,7;9,7");
        Check.is("26 far", x.safest(999), 8);
        Check.row("26 far", x, 0, 1);
        Check.rocks(x, "9,8");
        Check.is("26 the fewest", x.safest(999), 4);
        Check.row("26 the fewest", x, 1, 1);
        NobodyBeenAft bow = make();
        Check.rocks(bow, "1,1;1,2;1,3;1,4;1,5;1,6;1,7;1,8");
        Check.is("26 lane 0", bow.safest(1), 0);
        Check.row("26 lane 0", bow, 0, 1);
    }

    private static void p27to28() {
        NobodyBeenAft x = make();
        Check.is("27 0", x.late(0), NONE);
        Check.is("27 31", x.late(31), NONE);
        Check.is("27 none", x.late(30), 0);
        Check.is("27 30 numbers", x.count(11), 30);
        Check.is("27 the last", x.row(29), 30);
        Check.rule(x, "9-n*3");
        Check.is("27 two", x.late(4), 3);
        Check.row("27 two", x, 9, 7, 5, 4);
        Check.is("27 one alone", x.late(1), 0);
        x.order(1);
        Check.is("27 also at now", x.late(2), 1);
        Check.row("27 also at now", x, 9, 7);
        Check.rule(x, "6-n");
        Check.is("27 as late is not later", x.late(5), 0);
        Check.row("27 as late", x, 6, 6, 6, 6, 6);
        Check.rule(x, "12-n");
        Check.is("27 n by 12", x.late(13), 0);
        Check.is("27 the thirteenth", x.row(12), 24);
        NobodyBeenAft y = liar();
        int[] cells = {0, 5, 10, 16, 16};
        int[] by = {0, 1, 2, 3, 3};
        int[] turned = {0, 0, 1, 1, 1};
        for (int i = 0; i < 5; i++) {
            Check.is("28 " + i, y.comes(i), cells[i]);
            Check.row("28 " + i, y, by[i], turned[i]);
        }
        Check.is("28 12", y.comes(12), 16);
        Check.is("28 13", y.comes(13), NONE);
        Check.is("28 below 0", y.comes(-1), NONE);
        Check.ship(y, "17,0*,5*,16*");
        Check.is("28 at the bow", y.comes(0), 0);
        Check.row("28 at the bow", y, 1, 1);
        y.comes(1);
        Check.row("28 at that cell", y, 2, 0);
    }

    // ---- posts

    private static void posts() {
        NobodyBeenAft x = make();
        Check.ship(x, "17");
        Check.is("29 none", x.relay(0), 16);
        Check.row("29 none", x);
        Check.is("29 two", x.relay(2), 6);
        Check.row("29 two", x, 4, 10);
        Check.is("29 three", x.relay(3), 4);
        Check.row("29 three", x, 4, 8, 12);
        Check.is("29 11", x.relay(11), NONE);
        Check.is("29 below 0", x.relay(-1), NONE);
        Check.row("29 the row stays", x, 4, 8, 12);
        Check.ship(x, "5");
        Check.is("29 all cells", x.relay(3), 1);
        Check.row("29 all cells", x, 1, 2, 3);
        Check.is("29 not so many cells", x.relay(4), -2);
        Check.is("29 two of three", x.relay(2), 2);
        Check.row("29 two of three", x, 1, 2);
        Check.ship(x, "40");
        Check.is("29 longest", x.relay(10), 4);
        Check.row("29 longest", x, 1, 3, 7, 11, 15, 19, 23, 27, 31, 35);
        Check.is("30 one", x.fewest(1), 38);
        Check.is("30 13", x.fewest(13), 2);
        Check.is("30 12", x.fewest(12), 3);
        Check.is("30 39", x.fewest(39), 0);
        Check.is("30 38", x.fewest(38), 1);
        Check.is("30 0", x.fewest(0), NONE);
        Check.is("30 40", x.fewest(40), NONE);
        Check.is("30 shortest", make().fewest(1), 0);
        p31();
        p32();
    }

    private static void p31() {
        NobodyBeenAft x = make();
        int[][] wrong = {{2, 1}, {0, 1}, {-1, 1}, {16, 1}, {17, 1}, {1, -1}, {1, 11}};
        for (int[] a : wrong) {
            Check.is("31 " + a[0] + " " + a[1], x.word(a[0], a[1]), NONE);
        }
        Check.row("31 the row stays", x);
        long[][] due = {{1, 0, 1, 1}, {1, 10, 0, 1}, {1, 3, 7, 10}, {3, 1, 243, 250}, {15, 5, 1, 2}, {15, 0, 1, 1},
            {15, 10, 0, 1}, {3, 4, 81, 125}, {5, 2, 2944, 3125}};
        for (long[] a : due) {
            Check.is("31 " + a[0] + " " + a[1], x.word((int) a[0], (int) a[1]), 0);
            Check.row("31 " + a[0] + " " + a[1], x, a[2], a[3]);
        }
    }

    private static void p32() {
        NobodyBeenAft x = make();
        Check.is("32 p", x.survives(11, 5), NONE);
        Check.is("32 p below 0", x.survives(-1, 5), NONE);
        Check.is("32 v", x.survives(1, 101), NONE);
        Check.is("32 v below 0", x.survives(1, -1), NONE);
        Check.is("32 at once", x.survives(1, 90), 1);
        Check.is("32 three", x.survives(1, 91), 3);
        Check.is("32 97.2", x.survives(1, 97), 3);
        Check.is("32 five", x.survives(1, 98), 5);
        Check.is("32 never all", x.survives(1, 100), -2);
        Check.is("32 all", x.survives(0, 100), 1);
        Check.is("32 0 in 100", x.survives(10, 0), 1);
        Check.is("32 lies alone", x.survives(10, 1), -2);
        Check.is("32 thirteen of 4 tenths", x.survives(4, 77), 13);
        Check.is("32 fifteen of 4 tenths", x.survives(4, 78), 15);
        Check.is("32 more than fifteen", x.survives(4, 80), -2);
    }

    // ---- food

    private static void food() {
        NobodyBeenAft none = make();
        Check.is("33 no messes", none.lives(0), NONE);
        Check.is("34 no messes", none.shares(0), NONE);
        Check.is("35 no messes", none.fast(0), NONE);
        NobodyBeenAft x = make();
        Check.messes(x, "50*5;10*9;80*0");
        int[] lives = {1, 4, 10, 10};
        int[] which = {1, 1, 0, 0};
        for (int i = 0; i < 4; i++) {
            Check.is("33 " + i, x.lives(i), lives[i]);
            Check.row("33 " + i, x, which[i]);
        }
        Check.is("33 4", x.lives(4), NONE);
        Check.is("33 -1", x.lives(-1), NONE);
        NobodyBeenAft cut = make();
        Check.messes(cut, "5*3;9*0");
        Check.is("33 it is cut", cut.lives(0), 1);
        Check.is("33 nothing comes forward", cut.lives(1), 1);
        Check.is("33 it comes forward", cut.lives(2), 4);
        Check.is("34 99", cut.shares(99), -2);
        cut.sheet(3, 0, 0, 0);
        Check.is("34 99 of nothing", cut.shares(99), 0);
        NobodyBeenAft same = make();
        Check.messes(same, "0*0;8*4;9*4;4*2");
        int[] first = {1, 1, 0, 0};
        for (int i = 0; i < 4; i++) {
            Check.is("33 the same " + i, same.lives(i), 2);
            Check.row("33 the first of the same " + i, same, first[i]);
        }
        same.sheet(3, 0, 0, 0);
        for (int i = 0; i < 4; i++) {
            Check.is("33 nobody eats " + i, same.lives(i), 99999);
            Check.row("33 nobody eats " + i, same, NONE);
        }
        p34(x);
        p35(x);
    }

    private static void p34(NobodyBeenAft x) {
        Check.is("34 4 steps", x.shares(4), 26);
        Check.row("34 4 steps", x, 0, -26);
        Check.is("34 10 steps", x.shares(10), 80);
        Check.row("34 10 steps", x, 0, -80);
        Check.is("34 none", x.shares(0), 0);
        Check.row("34 none", x, 0, 0);
        Check.is("34 not so much", x.shares(11), -2);
        Check.row("34 the row stays", x, 0, 0);
        Check.is("34 100", x.shares(100), NONE);
        Check.is("34 below 0", x.shares(-1), NONE);
        NobodyBeenAft y = make();
        Check.messes(y, "9*0;0*4;9*0");
        Check.is("34 from either side", y.shares(2), 8);
        Check.row("34 the least row", y, 0, -8);
        Check.is("34 from both", y.shares(4), 16);
        Check.row("34 from both", y, 7, -9);
        NobodyBeenAft z = make();
        Check.messes(z, "99*0;99*0;0*9");
        Check.is("34 more than 99 in one", z.shares(22), 99 * 3);
        Check.row("34 more than 99 in one", z, 99, 198);
        NobodyBeenAft four = make();
        Check.messes(four, "4*1;0*2;9*1;0*1");
        Check.is("34 four", four.shares(2), 6);
        Check.row("34 four", four, 0, -4, 2);
        NobodyBeenAft one = make();
        Check.messes(one, "5*1");
        Check.is("34 one alone", one.shares(5), 0);
        Check.row("34 one alone", one);
        Check.is("34 one alone has not so much", one.shares(6), -2);
    }

    private static void p35(NobodyBeenAft x) {
        Check.is("35 nobody", x.fast(10), 0);
        Check.row("35 nobody", x, 0, 0);
        Check.is("35 one", x.fast(11), 1);
        Check.row("35 one", x, 1, 41);
        Check.is("35 another one", x.fast(16), 2);
        Check.row("35 another one", x, 1, 60);
        Check.is("35 two", x.fast(99), 3);
        Check.row("35 two", x, 2, 140);
        Check.is("35 100", x.fast(100), NONE);
        Check.is("35 below 0", x.fast(-1), NONE);
        NobodyBeenAft y = make();
        Check.messes(y, "0*1;0*1");
        Check.is("35 all", y.fast(1), 3);
        Check.row("35 all", y, 2, 0);
        Check.is("35 no steps", y.fast(0), 0);
    }

    // ---- what was ordered

    private static void ordered() {
        NobodyBeenAft x = make();
        Check.is("36 step", x.seen(25, 0), NONE);
        Check.is("36 step below 0", x.seen(-1, 0), NONE);
        Check.is("36 lane", x.seen(0, 9), NONE);
        Check.is("36 lane below 0", x.seen(0, -1), NONE);
        Check.is("38 nothing", x.ordered(), NONE);
        Check.is("39 nothing", x.unsure(), -2);
        Check.is("36 one", x.seen(3, 5), 1);
        Check.is("36 the same", x.seen(3, 5), 1);
        Check.is("36 another", x.seen(3, 6), -2);
        Check.is("38 three steps", x.ordered(), 6);
        Check.row("38 the least", x, -1, 1, 1);
        Check.is("39 three steps", x.unsure(), 1);
        Check.row("39 three steps", x, 0b111000);
        Check.is("36 two", x.seen(1, 3), 2);
        Check.is("38 one row", x.ordered(), 1);
        Check.row("38 one row", x, -1, 1, 1);
        Check.is("39 sure", x.unsure(), 0);
        Check.row("39 sure", x, 16);
        Check.is("36 three", x.seen(2, 3), 3);
        Check.is("38 no row", x.ordered(), 0);
        Check.row("38 no row", x);
        Check.is("39 no row", x.unsure(), -2);
        Check.is("37", x.forget(), 3);
        Check.is("37 none left", x.forget(), 0);
        Check.is("37 count", x.count(9), 0);
        Check.is("36 at first", x.seen(0, 4), 1);
        Check.is("38 no steps", x.ordered(), 1);
        Check.row("38 no steps", x);
        Check.is("39 no steps", x.unsure(), 0);
        Check.row("39 no steps", x, 16);
        x.forget();
        x.seen(0, 3);
        Check.is("38 not from there", x.ordered(), 0);
        Check.is("39 not from there", x.unsure(), -2);
        x.forget();
        x.seen(24, 4);
        Check.is("38 at most", x.ordered(), 1000000);
        Check.is("38 24 numbers", x.count(11), 24);
        Check.is("38 beyond she stays", x.row(5), -1);
        Check.is("39 all lanes", x.unsure(), 4);
        Check.row("39 all lanes", x, 511);
        x.forget();
        x.seen(2, 5);
        Check.is("39 by itself", x.unsure(), 1);
        Check.row("39 by itself", x, 0b110000);
        x.forget();
        Check.is("36 lane 8", x.seen(4, 8), 1);
        Check.is("38 lane 8", x.ordered(), 1);
        Check.row("38 lane 8", x, 1, 1, 1, 1);
        Check.is("39 lane 8", x.unsure(), 0);
        x.forget();
        x.seen(5, 0);
        Check.is("38 at the edge", x.ordered(), 6);
        Check.row("38 at the edge", x, -1, -1, -1, -1, -1);
        p36full();
    }

    private static void p36full() {
        NobodyBeenAft x = make();
        for (int i = 0; i < 12; i++) {
            Check.is("36 " + i, x.seen(i + 13, 4), i + 1);
        }
        Check.is("36 12 are there", x.seen(1, 4), NONE);
        Check.is("36 the same is none more", x.seen(24, 4), 12);
        Check.is("36 still another", x.seen(24, 5), -2);
        Check.is("36 24 was the last", x.ordered() > 0, true);
        Check.is("37 all", x.forget(), 12);
    }

    // ---- the boy, lookouts, mutinies

    private static void boys() {
        NobodyBeenAft x = make();
        Check.ship(x, "4");
        int[] cells = {0, 1, 2, 2, 3, 2, 2, 1, 0, 0, 1};
        int[] to = {1, 1, 1, 1, -1, -1, -1, -1, 1, 1, 1};
        for (int i = 0; i < cells.length; i++) {
            Check.is("40 " + i, x.boy(i, 3), cells[i]);
            Check.row("40 " + i, x, to[i]);
        }
        Check.is("40 every other", x.boy(5, 2), 3);
        Check.row("40 every other", x, -1);
        Check.is("40 far", x.boy(99999, 9), 2);
        Check.row("40 far", x, -1);
        Check.is("40 n", x.boy(100000, 9), NONE);
        Check.is("40 n below 0", x.boy(-1, 9), NONE);
        Check.is("40 r", x.boy(5, 10), NONE);
        Check.is("40 r 1", x.boy(5, 1), NONE);
        Check.is("41 r", x.meets(10), NONE);
        Check.is("41 r 1", x.meets(1), NONE);
        Check.is("41 he rests", x.meets(2), 2);
        Check.row("41 he rests", x, 1);
        Check.is("41 later", x.meets(3), 5);
        Check.row("41 later", x, 2);
        Check.ship(x, "3");
        Check.is("41 in the middle", x.meets(9), 1);
        Check.row("41 in the middle", x, 1);
        knows(x);
        mutinies(x);
    }

    private static void knows(NobodyBeenAft x) {
        long[][] due = {{0, 3, 3, 10}, {1, 5, 1, 4}, {0, 0, 0, 1}, {0, 10, 1, 1}, {1, 10, 0, 1}, {12, 0, 0, 1},
            {2, 2, 16, 125}, {12, 1, 282429536481L, 10000000000000L}};
        for (long[] a : due) {
            Check.is("42 " + a[0] + " " + a[1], x.knows((int) a[0], (int) a[1]), 0);
            Check.row("42 " + a[0] + " " + a[1], x, a[2], a[3]);
        }
        int[][] wrong = {{13, 1}, {-1, 1}, {1, -1}, {1, 11}};
        for (int[] a : wrong) {
            Check.is("42 " + a[0] + " " + a[1], x.knows(a[0], a[1]), NONE);
        }
    }

    private static void mutinies(NobodyBeenAft x) {
        Check.is("43 never", x.mutiny(1, 1, 18), 4);
        Check.row("43 never", x, 0, 0);
        Check.is("43 one yields all or none", x.mutiny(2, 2, 1), 3);
        Check.row("43 one yields all or none", x, 0, 0);
        Check.is("43 ten each", x.mutiny(10, 10, 5), 7);
        Check.row("43 ten each", x, 0, 0);
        Check.is("43 the second has more by it", x.mutiny(20, 3, 1), 2);
        Check.row("43 the second has more by it", x, 0, 1);
        Check.is("43 half is cut", x.mutiny(1, 1, 1), 3);
        Check.row("43 half is cut", x, 0, 0);
        Check.is("43 the most that can be held", x.mutiny(20, 20, 18), 82);
        Check.row("43 the most that can be held", x, 0, 0);
        int[][] wrong = {{0, 1, 1}, {1, 0, 1}, {21, 1, 1}, {1, 21, 1}, {1, 1, 0}, {1, 1, 19}};
        for (int[] a : wrong) {
            Check.is("43 " + a[0] + " " + a[1] + " " + a[2], x.mutiny(a[0], a[1], a[2]), NONE);
        }
    }

    // ---- chances, voyages, kept

    private static void kept() {
        p44();
        p45();
        p46to47();
        p48to49();
    }

    private static void p44() {
        NobodyBeenAft x = liar();
        long[][] due = {{1, 5, 2, 1, 2}, {1, 5, 3, 1, 1}, {1, 10, 12, 1, 1}, {2, 3, 0, 49, 100}, {12, 10, 0, 0, 1},
            {12, 0, 0, 1, 1}, {12, 1, 0, 282429536481L, 1000000000000L}};
        for (long[] a : due) {
            String what = "44 " + a[0] + " " + a[1] + " " + a[2];
            Check.is(what, x.chance((int) a[0], (int) a[1], (int) a[2]), 0);
            Check.row(what, x, a[3], a[4]);
        }
        int[][] wrong = {{0, 1, 1}, {13, 1, 1}, {1, -1, 1}, {1, 11, 1}, {1, 1, -1}, {1, 1, 13}};
        for (int[] a : wrong) {
            Check.is("44 " + a[0] + " " + a[1] + " " + a[2], x.chance(a[0], a[1], a[2]), NONE);
        }
    }

    /** Draws by hand, on an object that gives the orders itself. */
    private static void p45() {
        Check.is("45 0", make().voyages(1, 0), NONE);
        Check.is("45 61", make().voyages(1, 61), NONE);
        NobodyBeenAft one = make();
        Check.rocks(one, "1,4;2,4;2,5;2,3");
        one.steps(1);
        Check.is("45 one step", one.voyages(1, 1), 1);
        Check.is("45 one step of it", one.count(5), 1);
        for (int seed : new int[] {0, 1, -1, 77, 4711, Integer.MIN_VALUE, Integer.MAX_VALUE}) {
            NobodyBeenAft x = liar();
            NobodyBeenAft y = liar();
            for (NobodyBeenAft z : new NobodyBeenAft[] {x, y}) {
                Check.rule(z, "12-n/2");
                Check.rocks(z, "20,3;20,4;20,5;21,4;22,3;23,5;24,6;25,2;30,4;31,4;32,5;33,3;34,6");
                Check.messes(z, "9*1");
                z.order(1);
            }
            long r = seed & 0xffffffffL;
            int given = 0;
            int hits = 0;
            for (int i = 0; i < 60; i++) {
                r = (r * 1103515245L + 12345) & 0xffffffffL;
                long draw = r / 65536 % 4;
                if (draw < 2 && y.order(draw == 0 ? -1 : 1) > 0) {
                    given++;
                }
                y.steps(1);
                hits += (int) y.row(0);
            }
            Check.is("45 hits by " + seed, x.voyages(seed, 60), hits);
            Check.row("45 " + seed, x, y.count(6), given);
            Check.is("45 nothing changes: now", x.count(5), 0);
            Check.is("45 nothing changes: lane", x.count(6), 4);
            Check.is("45 nothing changes: hits", x.count(7), 0);
            Check.is("45 nothing changes: orders", x.count(8), 1);
            Check.is("45 nothing changes: undo", x.count(10), 1);
            Check.is("45 nothing changes: food", x.mess(0, 0), 9);
        }
    }

    private static void p46to47() {
        NobodyBeenAft x = make();
        Check.is("46 3", x.keep(3), false);
        Check.is("46 below 0", x.keep(-1), false);
        Check.is("47 nothing kept", x.again(0), false);
        Check.is("47 3", x.again(3), false);
        Check.is("47 below 0", x.again(-1), false);
        Check.messes(x, "5*2");
        Check.rocks(x, "1,4");
        Check.rule(x, "4");
        x.order(1);
        x.steps(1);
        Check.is("46", x.keep(2), true);
        Check.is("46 that can be undone still", x.count(10), 2);
        x.steps(5);
        Check.is("46 another", x.keep(0), true);
        x.cook(0, 50);
        Check.is("47", x.again(2), true);
        Check.is("47 now", x.count(5), 1);
        Check.is("47 lane", x.count(6), 4);
        Check.is("47 hits", x.count(7), 1);
        Check.is("47 orders", x.way(0, 0), 3);
        Check.is("47 food", x.mess(0, 0), 3);
        Check.is("47 hungry", x.mess(0, 2), 0);
        Check.is("47 undo forgets", x.undo(), NONE);
        Check.is("47 the other", x.again(0), true);
        Check.is("47 hungry then", x.mess(0, 2), 4);
        Check.is("47 lane then", x.count(6), 5);
        Check.is("47 nothing kept under 1", x.again(1), false);
        Check.is("47 as often as one likes", x.again(2), true);
        Check.messes(x, "");
        Check.messes(x, "x");
        Check.is("47 no messes came", x.again(2), true);
        Check.messes(x, "1*1");
        Check.is("47 messes came since", x.again(2), false);
        Check.is("47 messes came since that one, too", x.again(0), false);
        Check.is("46 once more", x.keep(2), true);
        Check.is("47 once more", x.again(2), true);
    }

    private static void p48to49() {
        NobodyBeenAft x = liar();
        Check.rocks(x, "1,4;2,5");
        Check.messes(x, "1*1");
        x.order(1);
        x.steps(2);
        x.seen(1, 1);
        x.sign(7);
        int[] due = {17, 3, 1, 2, 1, 2, 4, 1, 1, 1, 2, 2, 4};
        for (int i = 0; i < due.length; i++) {
            Check.is("48 count(" + i + ")", x.count(i), due[i]);
        }
        Check.is("48 13", x.count(13), -100);
        Check.is("48 below 0", x.count(-1), -100);
        Check.is("49 first", x.row(0), 1);
        Check.is("49 second", x.row(1), 1);
        Check.none("49 third", () -> x.row(2));
        Check.none("49 below 0", () -> x.row(-1));
        Check.none("49 far", () -> x.row(Integer.MAX_VALUE));
    }
}
