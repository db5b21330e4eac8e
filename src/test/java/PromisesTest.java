/** The promises of ../shared/DOC.md, one method each: ordinary inputs, the edges, wrong inputs. */
public final class PromisesTest extends Asking {
    /** ONE 0 of a house of two, 1 who is for strangers, 2 and 3 with a FREE DOOR; a ring of four ROOMS and a yard. */
    private static final String TOWN = "house 1 0 0;stranger 1 2 1;gaol 2 3;own 0 0;"
        + "wall 0 1;wall 1 2;wall 2 3;wall 3 0;wall 3 7;room 2 40;room 7 9;plan 2 2 3 3 2 4;";
    /** ONE 0 may pass 0-1-2 or 0-3-2 by the DOORS of his HOUSE, and 2-4 beyond. */
    private static final String RING = "house0 0 0;house0 0 1;house0 0 2;house0 0 3;house0 5 4;"
        + "wall0 1;wall1 2;wall0 3;wall3 2;wall2 4;room4 30;room1 5;room3 7;";

    public static void main(String[] args) {
        p01New();
        p02Feed();
        p03End();
        p04TextTaken();
        p04TextFaults();
        p04TextFaultsOfTokens();
        p04TextBounds();
        p05Fault();
        p06Rule();
        p07One();
        p08Wall();
        p09Room();
        p10Act();
        p11Alter();
        p12Price();
        p13Build();
        p14Plan();
        p15Cut();
        p16Hang();
        p17Fill();
        p18Steps();
        p19Way();
        p20Meet();
        p21Runs();
        p22Ahead();
        p23Best();
        p24Friend();
        p25Gain();
        p26Shut();
        p27Leave();
        p28Kindly();
        p29Dear();
        p30Luck();
        p31Mean();
        p32See();
        p33Forget();
        p34Kinds();
        p35Walls();
        p36Ask();
        p37Drift();
        p38Keep();
        p39Back();
        p40Sheet();
        p41Lay();
        p42Read();
        p42ReadFaults();
        p43Torn();
        p44Count();
        finish();
    }

    private static String times(int n, String text) {
        return text.repeat(n);
    }

    // ---- the text, what there is

    private static void p01New() {
        DoorTown x = new DoorTown();
        due("1 BAD", DoorTown.BAD, -1);
        due("1 STATE", DoorTown.STATE, -2);
        due("1 FULL", DoorTown.FULL, -3);
        due("1 NONE", DoorTown.NONE, -4);
        due("1 people", x.rule(0), 0);
        due("1 walls", x.rule(1), 0);
        due("1 hung", x.rule(2), 0);
        due("1 acts", x.rule(3), 0);
        due("1 free", x.rule(4), 0);
        due("1 unreached", x.rule(5), 255);
        due("1 worth", x.count(4), 0);
        due("1 seen", x.count(0), 0);
        due("1 images", x.count(1), 0);
        due("1 tape", x.count(2), 0);
        due("1 fault", x.fault(), 0);
        due("1 torn", x.torn(), 0);
        due("1 sheet 0", x.count(3), NONE);
        for (int k = 0; k < 4; k++) {
            due("1 sheet has nothing", x.lay(k, 0, 0), -11);
        }
    }

    private static void p02Feed() {
        DoorTown x = new DoorTown();
        due("2 first", x.feed(0), 1);
        due("2 highest", x.feed(127), 2);
        due("2 below", x.feed(-1), BAD);
        due("2 above", x.feed(128), BAD);
        due("2 far", x.feed(MIN), BAD);
        due("2 kept", x.count(2), 2);
        for (int n = 3; n <= 160; n++) {
            due("2 n-th", x.feed(32), n);
        }
        due("2 full", x.feed(32), FULL);
        due("2 bad ahead of full", x.feed(200), BAD);
        due("2 still", x.count(2), 160);
    }

    private static void p03End() {
        DoorTown x = new DoorTown();
        due("3 none", x.end(0), 0);
        due("3 above none", x.end(1), BAD);
        for (char c : "own 1 1;own?".toCharArray()) {
            x.feed(c);
        }
        due("3 above", x.end(13), BAD);
        due("3 below", x.end(-1), BAD);
        due("3 all", x.end(12), 12);
        due("3 eight", x.end(8), 12);
        due("3 eight are left", x.count(2), 8);
        due("3 behind them", x.feed(' '), 9);
        due("3 its first", x.text(), 1);
    }

    private static void p04TextTaken() {
        DoorTown x = new DoorTown();
        due("4 lines", tell(x, TOWN), 12);
        due("4 tape is empty", x.count(2), 0);
        due("4 one", x.one(2, 0), 3);
        due("4 hung", x.one(1, 3), 1);
        due("4 act", x.act(2, 1), 4);
        due("4 worth", x.room(7, 0), 9);
        x.see(0, 0, true);
        x.keep(0);
        x.keep(1);
        x.sheet(0, 1, 3);
        x.fill(0);
        due("4 no blank needed", tell(x, "gaol3 07;wall7 0;  plan;own0 0"), -10 - 30);
        due("4 refused: seen stays", x.count(0), 1);
        due("4 refused: images stay", x.count(1), 2);
        due("4 refused: people stay", x.rule(0), 4);
        due("4 refused: tape is empty", x.count(2), 0);
        due("4 no blank needed, whole", tell(x, "gaol3 07;wall7 0;  plan;  "), 3);
        due("4 house", x.one(0, 1), 3);
        due("4 home", x.one(0, 2), 7);
        due("4 free", x.one(0, 6), 0);
        due("4 A", x.wall(0, 0), 7);
        due("4 B", x.wall(0, 1), 0);
        due("4 no door", x.wall(0, 2), NONE);
        due("4 people", x.rule(0), 1);
        due("4 walls", x.rule(1), 1);
        due("4 plan is gone", x.rule(3), 0);
        due("4 worth is gone", x.count(4), 0);
        due("4 seen is gone", x.count(0), 0);
        due("4 images are gone", x.back(0) + x.back(1), 2 * STATE);
        due("4 sheets stay", x.count(3), 3);
        due("4 a wall told behind the one", tell(x, "own 0 0 0;wall 0 1;"), 2);
        due("4 it is hung", x.one(0, 4), 3);
        due("4 empty", x.text(), 0);
        due("4 nobody", x.rule(0) + x.rule(1), 0);
        due("4 blanks", tell(x, "   "), 0);
        due("4 five, nine, six", tell(x, times(5, "own0 0;") + times(9, "wall0 1;")
            + "plan0 0 1 1 2 2 3 3 4 4 0 8;"), 15);
        due("4 rooms", tell(x, "room0 1;room1 2;room2 3;room3 4;room4 5;room5 6;room6 7;room7 99;"), 8);
        due("4 their worth", x.count(4), 28 + 99);
    }

    private static void p04TextFaults() {
        refused("thief 1 1;", 2, 0);
        refused("1 1;", 2, 0);
        refused(";", 2, 0);
        refused(" owns 1 1;", 2, 1);
        refused("ow 1 1;", 2, 0);
        refused("own;", 2, 3);
        refused("own 1;", 2, 5);
        refused("own 1 own", 2, 6);
        refused("own 1 1", 2, 7);
        refused("own 1 1  ", 2, 9);
        refused("own 1 1 1", 2, 9);
        refused("own 1 1 1 1;", 2, 10);
        refused("own 1 1 own", 2, 8);
        refused("wall 1;", 2, 6);
        refused("wall 1 2 3;", 2, 9);
        refused("wall 1 2", 2, 8);
        refused("room 1;", 2, 6);
        refused("room 1 2 3;", 2, 9);
        refused("room 1 2", 2, 8);
        refused("plan", 2, 4);
        refused("plan own", 2, 5);
        refused("own0 0;wall0 1;plan 0;", 2, 21);
        refused("own0 0;wall0 1;plan 0 0", 2, 23);
        refused("plan;plan;", 4, 5);
        refused("own 1 1 0;own 1 1 0;", 4, 18);
        refused("own 1 1 0;own 1 1 0 ?", 4, 18);
        refused("room 1 5;room 1 6;", 4, 14);
        refused("room 1 5;room 01 ?", 4, 14);
        refused("room 1 5;room 2 5;room 3 5;room 1 5;", 4, 32);
        refused(times(5, "own 1 1;") + "own 9 9;", 5, 40);
        refused(times(5, "gaol1 1;") + " stranger ?", 5, 41);
        refused(times(9, "wall 1 2;") + "wall ?", 5, 81);
        refused(times(9, "wall 1 2;") + "  wall 1 1;", 5, 83);
        String six = "own0 0;wall0 1;plan 0 0 0 0 0 0 0 0 0 0 0 0 ";
        refused(six + "0 0;", 5, 44);
        refused(six + "9 0;", 5, 44);
        refused(six + "0;", 5, 44);
        refused(six + "5", 5, 44);
        refused(six + "99 own", 5, 44);
        refused(six + "07?", 5, 44);
        refused(six + "own;", 2, 44);
        refused(six + "plan;", 2, 44);
        refused(six + "r", 2, 44);
        refused(six + "  wall 0 1;", 2, 46);
        refused(six + "x 0 0;", 2, 44);
        refused(six + "100 0;", 1, 44);
        refused(six + "?", 1, 44);
        refused(six + "R", 1, 44);
        refused(six, 2, 44);
        refused(six + "  ", 2, 46);
        due("4 six ACTS and no 7th", tell(new DoorTown(), six + ";"), 3);
        refused("own 1 1 0;", 6, 10);
        refused("own 1 1 1;wall 0 1;  ", 6, 21);
        refused("own 1 1;plan 0 0;", 6, 17);
        refused("wall 1 2;plan 0 0;", 6, 18);
        refused("own0 0;wall0 1;plan 0 0 1 0;", 6, 28);
        refused("own0 0;wall0 1;plan 0 0 0 1;", 6, 28);
    }

    private static void p04TextFaultsOfTokens() {
        refused("?", 1, 0);
        refused("  Own 1 1;", 1, 2);
        refused("own\t1 1;", 1, 3);
        refused("own 1 1,", 1, 7);
        refused("own-1 1;", 1, 3);
        refused("own 100 1;", 1, 4);
        refused("own 001 1;", 1, 4);
        refused("own 1 1 000;", 1, 8);
        refused("room 1 100;", 1, 7);
        refused("room 1 1000;", 1, 7);
        refused("own {", 1, 4);
        refused("own 1 1;\0", 1, 8);
        refused("own 1 1;\177", 1, 8);
        refused("own 1 1;z", 2, 8);
        refused("own 1 1;xwn 1 1;", 2, 8);
        refused("own 1 1;owm 1 1;", 2, 8);
        refused("own `", 1, 4);
        refused("own :", 1, 4);
        refused("own /", 1, 4);
        refused("plan 0 0 ! ;", 1, 9);
        refused("own 1 1;100", 1, 8);
    }

    private static void p04TextBounds() {
        refused("own 4 1;", 3, 4);
        refused("own 4 9;", 3, 4);
        refused("own 4 ?", 3, 4);
        refused("own 1 8;", 3, 6);
        refused("own 1 1 9;", 3, 8);
        refused("wall 8 1;", 3, 5);
        refused("wall 1 8;", 3, 7);
        refused("wall 1 1;", 3, 7);
        refused("wall 1 1 ?", 3, 7);
        refused("room 8 1;", 3, 5);
        refused("room 99 100;", 3, 5);
        refused("plan 5 0;", 3, 5);
        refused("plan 0 9;", 3, 7);
        DoorTown x = new DoorTown();
        due("4 highest", tell(x, "gaol 3 7;own 0 0 8;" + times(9, "wall 7 0;") + "room 7 99;plan 1 8;"), 13);
        due("4 it is hung", x.one(1, 3), 8);
    }

    private static void p05Fault() {
        DoorTown x = new DoorTown();
        due("5 none", x.fault(), 0);
        tell(x, "own 4 4;");
        due("5 bounds", x.fault(), 3);
        x.feed('?');
        due("5 of the latest text() alone", x.fault(), 3);
        due("5 again", x.text(), -10);
        due("5 no token", x.fault(), 1);
        x.text();
        due("5 taken", x.fault(), 0);
    }

    private static void p06Rule() {
        DoorTown x = town(TOWN);
        int[] want = {4, 5, 2, 3, 12, 240};
        for (int what = 0; what < 6; what++) {
            due("6 rule " + what, x.rule(what), want[what]);
        }
        due("6 below", x.rule(-1), BAD);
        due("6 above", x.rule(6), BAD);
        x.fill(0);
        due("6 hung", x.rule(2), 1);
        due("6 gone is not free", x.rule(4), 12);
        due("6 nobody reaches", x.rule(5), 242);
    }

    private static void p07One() {
        DoorTown x = town(TOWN);
        int[][] want = {{1, 1, 0, 0, 3, 0, 1}, {2, 1, 2, 1, 4, 0, 1}, {3, 2, 3, NONE, 8, 0, 0}, {0, 0, 0, NONE, 1, 0, 0}};
        for (int p = 0; p < 4; p++) {
            for (int what = 0; what < 7; what++) {
                due("7 one " + p + " " + what, x.one(p, what), want[p][what]);
            }
        }
        due("7 what below", x.one(0, -1), BAD);
        due("7 what above", x.one(0, 7), BAD);
        due("7 p below", x.one(-1, 0), BAD);
        due("7 p above", x.one(4, 0), BAD);
        due("7 p far", x.one(MAX, 0), BAD);
        x.price(0, 5);
        x.price(1, 7);
        due("7 gain but his home", x.one(0, 5), 7);
        x.fill(0);
        due("7 gone", x.one(0, 6), 2);
        due("7 gone is in no wall", x.one(0, 3), NONE);
        due("7 gain is gone", x.one(0, 5), 0);
    }

    private static void p08Wall() {
        DoorTown x = town(TOWN);
        due("8 A", x.wall(3, 0), 3);
        due("8 B", x.wall(3, 1), 0);
        due("8 whose", x.wall(1, 2), 1);
        due("8 nobody's", x.wall(2, 2), NONE);
        due("8 house lets", x.wall(0, 3), 3);
        due("8 stranger lets", x.wall(1, 3), 12);
        due("8 nobody's lets", x.wall(2, 3), 0);
        x.hang(2, 2);
        due("8 gaol lets", x.wall(2, 3), 11);
        x.hang(3, 3);
        due("8 own lets", x.wall(3, 3), 8);
        due("8 what below", x.wall(0, -1), BAD);
        due("8 what above", x.wall(0, 4), BAD);
        due("8 w below", x.wall(-1, 0), BAD);
        due("8 w above", x.wall(5, 0), BAD);
    }

    private static void p09Room() {
        DoorTown x = town(TOWN);
        due("9 worth", x.room(2, 0), 40);
        due("9 no worth", x.room(3, 0), 0);
        due("9 who", x.room(0, 1), 9);
        due("9 who by a door", x.room(1, 1), 1);
        due("9 nobody", x.room(6, 1), 0);
        due("9 r below", x.room(-1, 0), BAD);
        due("9 r above", x.room(8, 0), BAD);
        due("9 what below", x.room(0, -1), BAD);
        due("9 what above", x.room(0, 2), BAD);
    }

    private static void p10Act() {
        DoorTown x = town(TOWN);
        due("10 one", x.act(1, 0), 3);
        due("10 wall", x.act(2, 1), 4);
        due("10 i below", x.act(-1, 0), BAD);
        due("10 i above", x.act(3, 0), BAD);
        due("10 what below", x.act(0, -1), BAD);
        due("10 what above", x.act(0, 2), BAD);
    }

    // ---- what is changed

    private static void p11Alter() {
        DoorTown x = town(TOWN);
        due("11 kind", x.alter(0, 0, 3), 1);
        due("11 is", x.one(0, 0), 3);
        due("11 lets another then", x.wall(0, 3), 14);
        due("11 house", x.alter(1, 1, 0), 1);
        due("11 is", x.one(1, 1), 0);
        due("11 home", x.alter(2, 2, 7), 3);
        due("11 is", x.one(2, 4), 128);
        due("11 kind above", x.alter(0, 0, 4), BAD);
        due("11 house above", x.alter(0, 1, 4), BAD);
        due("11 home above", x.alter(0, 2, 8), BAD);
        due("11 below", x.alter(0, 2, -1), BAD);
        due("11 what above", x.alter(0, 3, 0), BAD);
        due("11 what below", x.alter(0, -1, 0), BAD);
        due("11 p below", x.alter(-1, 0, 0), BAD);
        due("11 p above", x.alter(4, 0, 0), BAD);
        due("11 unchanged", x.one(0, 0) * 100 + x.one(0, 1) * 10 + x.one(0, 2), 310);
    }

    private static void p12Price() {
        DoorTown x = new DoorTown();
        due("12 first", x.price(7, 99), 0);
        due("12 then", x.price(7, 0), 99);
        due("12 is", x.room(7, 0), 0);
        due("12 other", x.price(0, 1), 0);
        due("12 r above", x.price(8, 1), BAD);
        due("12 r below", x.price(-1, 1), BAD);
        due("12 v above", x.price(0, 100), BAD);
        due("12 v below", x.price(0, -1), BAD);
        due("12 unchanged", x.room(0, 0), 1);
    }

    private static void p13Build() {
        DoorTown x = new DoorTown();
        due("13 alike", x.build(3, 3), BAD);
        due("13 a above", x.build(8, 3), BAD);
        due("13 b above", x.build(3, 8), BAD);
        due("13 a below", x.build(-1, 3), BAD);
        due("13 b below", x.build(3, -1), BAD);
        for (int n = 1; n <= 9; n++) {
            due("13 n-th", x.build(7, 0), n);
        }
        due("13 full", x.build(1, 2), FULL);
        due("13 bad ahead of full", x.build(1, 1), BAD);
        due("13 nine", x.rule(1), 9);
        due("13 A", x.wall(8, 0), 7);
        due("13 B", x.wall(8, 1), 0);
        due("13 no door", x.wall(8, 2), NONE);
    }

    private static void p14Plan() {
        DoorTown x = town("own 0 0;gaol 0 0 0;wall 0 1;");
        due("14 p above", x.plan(2, 0), BAD);
        due("14 p below", x.plan(-1, 0), BAD);
        due("14 w above", x.plan(0, 1), BAD);
        due("14 w below", x.plan(0, -1), BAD);
        for (int n = 1; n <= 6; n++) {
            due("14 n-th", x.plan(n % 2, 0), n);
        }
        due("14 full", x.plan(0, 0), FULL);
        due("14 bad ahead of full", x.plan(0, 1), BAD);
        due("14 six", x.rule(3), 6);
        due("14 its one", x.act(4, 0), 1);
        due("14 nobody hangs", x.one(0, 6), 0);
    }

    private static void p15Cut() {
        DoorTown x = town(TOWN);
        due("15 above", x.cut(4), BAD);
        due("15 below", x.cut(-1), BAD);
        due("15 all", x.cut(3), 3);
        due("15 one", x.cut(1), 3);
        due("15 is", x.rule(3), 1);
        due("15 first stays", x.act(0, 0), 2);
        due("15 second is gone", x.act(1, 0), BAD);
        due("15 none", x.cut(0), 1);
        due("15 none again", x.cut(0), 0);
    }

    // ---- doors, ways

    private static void p16Hang() {
        DoorTown x = town(TOWN);
        due("16 there is one", x.hang(3, 0), STATE);
        due("16 it is hung", x.hang(0, 3), STATE);
        due("16 p above", x.hang(4, 2), BAD);
        due("16 p below", x.hang(-1, 2), BAD);
        due("16 w above", x.hang(3, 5), BAD);
        due("16 w below", x.hang(3, -1), BAD);
        due("16 nothing came", x.rule(2), 2);
        due("16 own lets him", x.hang(3, 3), 9);
        due("16 in the wall", x.wall(3, 2), 3);
        due("16 where", x.one(3, 3), 3);
        due("16 hung", x.one(3, 6), 1);
        due("16 gaol lets him not", x.hang(2, 2), 8);
        due("16 it lets the others", x.room(3, 1), 15 & ~1);
        x.fill(2);
        due("16 gone", x.hang(2, 2), STATE);
    }

    private static void p17Fill() {
        DoorTown x = town(TOWN);
        due("17 whose", x.fill(1), 1);
        due("17 none then", x.fill(1), STATE);
        due("17 none at all", x.fill(4), STATE);
        due("17 w above", x.fill(5), BAD);
        due("17 w below", x.fill(-1), BAD);
        due("17 gone", x.one(1, 6), 2);
        due("17 empty", x.wall(1, 2), NONE);
        due("17 another may hang there", x.hang(3, 1), 1);
    }

    private static void p18Steps() {
        DoorTown x = town(RING);
        int[] want = {0, 1, 2, 1, 3, NONE, NONE, NONE};
        for (int r = 0; r < 8; r++) {
            due("18 to " + r, x.steps(0, r), want[r]);
        }
        due("18 from B to A", x.steps(4, 4), NONE);
        due("18 at home", x.steps(4, 5), 0);
        x.alter(4, 2, 4);
        due("18 back", x.steps(4, 0), 3);
        due("18 r above", x.steps(0, 8), BAD);
        due("18 r below", x.steps(0, -1), BAD);
        due("18 p above", x.steps(5, 0), BAD);
        due("18 p below", x.steps(-1, 0), BAD);
    }

    private static void p19Way() {
        DoorTown x = town(RING);
        due("19 first of two ways", x.way(0, 4, 0), 0);
        due("19 on", x.way(0, 4, 1), 1);
        due("19 end", x.way(0, 4, 2), 4);
        due("19 not so many", x.way(0, 4, 3), NONE);
        due("19 not so many", x.way(0, 4, 6), NONE);
        due("19 at home", x.way(0, 0, 0), NONE);
        due("19 not reached", x.way(0, 7, 0), NONE);
        x.alter(4, 2, 4);
        due("19 back", x.way(4, 0, 0), 4);
        due("19 back, the first", x.way(4, 0, 1), 1);
        due("19 back, home", x.way(4, 0, 2), 0);
        x.fill(1);
        due("19 the other way", x.way(0, 2, 0), 2);
        due("19 the other way on", x.way(0, 2, 1), 3);
        due("19 i above", x.way(0, 4, 7), BAD);
        due("19 i below", x.way(0, 4, -1), BAD);
        due("19 r above", x.way(0, 8, 0), BAD);
        due("19 r below", x.way(0, -1, 0), BAD);
        due("19 p above", x.way(5, 0, 0), BAD);
        due("19 p below", x.way(-1, 0, 0), BAD);
    }

    private static void p20Meet() {
        DoorTown x = town("house0 0 0;own1 1;own0 2;wall0 1;");
        due("20 both", x.meet(0, 1), 2);
        due("20 turned", x.meet(1, 0), 2);
        due("20 none", x.meet(1, 2), 0);
        due("20 alike", x.meet(1, 1), BAD);
        due("20 p below", x.meet(-1, 1), BAD);
        due("20 p above", x.meet(3, 1), BAD);
        due("20 q below", x.meet(1, -1), BAD);
        due("20 q above", x.meet(1, 3), BAD);
    }

    private static void p21Runs() {
        DoorTown x = town(TOWN);
        due("21 came", x.runs(0), 2);
        due("21 passed over", x.runs(1), 2);
        due("21 rooms", x.runs(2), 2 + 2 + 1 + 4);
        due("21 hung", x.runs(3), 4);
        due("21 below", x.runs(-1), BAD);
        due("21 above", x.runs(4), BAD);
        due("21 nothing is changed", x.rule(2), 2);
        x.cut(2);
        due("21 none passed over", x.runs(1), NONE);
        x.cut(0);
        due("21 none came", x.runs(0), 0);
        due("21 rooms as they are", x.runs(2), 5);
        x.plan(0, 2);
        x.plan(2, 0);
        x.plan(2, 4);
        x.plan(3, 4);
        due("21 hung, taken, well, taken", x.runs(0), 1);
        due("21 the first", x.runs(1), 0);
        due("21 three", x.runs(3), 3);
    }

    private static void p22Ahead() {
        DoorTown x = town(TOWN);
        due("22 as it is", x.one(1, 4), 4);
        due("22 by another's", x.ahead(1), 12);
        due("22 by his own and two others'", x.ahead(3), 15);
        due("22 as ever", x.ahead(0), 3);
        due("22 nothing is changed", x.one(1, 4), 4);
        due("22 p below", x.ahead(-1), BAD);
        due("22 p above", x.ahead(4), BAD);
    }

    // ---- what is best

    private static void p23Best() {
        DoorTown x = town("own0 0;stranger1 0;house1 1 3;wall0 1;wall1 2;wall0 2;wall0 2;wall2 4;");
        due("23 the first", x.best(0, 1, 0), 0);
        due("23 its steps", x.best(0, 1, 1), 1);
        due("23 not where one is", x.best(0, 2, 0), 2);
        due("23 its steps", x.best(0, 2, 1), 1);
        due("23 by none", x.best(0, 4, 0), NONE);
        due("23 by none", x.best(0, 7, 1), NONE);
        due("23 at home, the first", x.best(0, 0, 0), 0);
        due("23 at home", x.best(0, 0, 1), 0);
        due("23 not let by his own", x.best(1, 1, 0), NONE);
        due("23 he is there already", x.best(1, 2, 0), 0);
        due("23 he is there already", x.best(1, 2, 1), 1);
        due("23 hung", x.best(2, 0, 0), STATE);
        due("23 hung", x.best(2, 7, 1), STATE);
        x.fill(3);
        due("23 gone", x.best(2, 0, 0), STATE);
        due("23 what above", x.best(0, 1, 2), BAD);
        due("23 what below", x.best(0, 1, -1), BAD);
        due("23 r above", x.best(0, 8, 0), BAD);
        due("23 r below", x.best(0, -1, 0), BAD);
        due("23 p above", x.best(3, 1, 0), BAD);
        due("23 p below", x.best(-1, 1, 0), BAD);
        due("23 bad ahead of state", x.best(2, 8, 0), BAD);
        due("23 nothing is changed", x.one(0, 6), 0);
        DoorTown y = town("house0 0 0;house0 0;wall0 1;wall1 2;wall0 2;");
        due("23 fewest steps", y.best(1, 2, 0), 2);
        due("23 fewest steps", y.best(1, 2, 1), 1);
        DoorTown z = town("own0 0;");
        due("23 no wall", z.best(0, 0, 0), NONE);
    }

    private static void p24Friend() {
        DoorTown x = town("house0 0 0;own0 0;stranger1 5;gaol0 6;wall0 1;wall1 2;wall0 2;wall0 3;");
        due("24 not his own ones, a stranger", x.friend(1, 2, 0), 22);
        due("24 one step", x.friend(1, 2, 1), 1);
        due("24 already there: its steps", x.friend(1, 1, 1), 1);
        due("24 already there: any", x.friend(1, 1, 0), 21);
        due("24 the owner's is hung", x.friend(0, 3, 0), 23);
        due("24 nobody", x.friend(1, 7, 0), NONE);
        due("24 nobody", x.friend(1, 7, 1), NONE);
        due("24 not himself", x.friend(2, 2, 0), NONE);
        x.alter(2, 2, 0);
        due("24 the gaoler", x.friend(2, 2, 0), 32);
        due("24 where one is already", x.friend(2, 1, 0), NONE);
        due("24 not yet there", x.friend(2, 3, 0), 33);
        x.hang(3, 3);
        due("24 at home by the least", x.friend(2, 0, 0), 11);
        due("24 no steps", x.friend(2, 0, 1), 0);
        due("24 what above", x.friend(0, 1, 2), BAD);
        due("24 what below", x.friend(0, 1, -1), BAD);
        due("24 r above", x.friend(0, 8, 0), BAD);
        due("24 r below", x.friend(0, -1, 0), BAD);
        due("24 p above", x.friend(4, 1, 0), BAD);
        due("24 p below", x.friend(-1, 1, 0), BAD);
        due("24 nothing is changed", x.rule(2), 2);
        DoorTown y = town("gaol0 0;own0 0;wall0 1;");
        due("24 ONE 0, WALL 0", y.friend(1, 1, 0), 0);
        due("24 ONE 0, WALL 0", y.friend(1, 1, 1), 1);
    }

    private static void p25Gain() {
        DoorTown x = town("house0 0 0;own0 0;gaol0 0;wall0 1;wall1 2;wall0 3;wall0 3;room0 50;room1 5;room2 6;room3 6;");
        due("25 the first of two alike", x.gain(1, 0), 1);
        due("25 with what he has", x.gain(1, 1), 11);
        due("25 but his home", x.one(1, 5), 5);
        due("25 none by a gaoler's", x.gain(2, 0), NONE);
        due("25 none by a gaoler's", x.gain(2, 1), NONE);
        due("25 hung", x.gain(0, 0), STATE);
        x.price(3, 7);
        due("25 most", x.gain(1, 0), 2);
        due("25 most", x.gain(1, 1), 12);
        x.price(2, 0);
        x.price(3, 0);
        due("25 not more", x.gain(1, 0), NONE);
        x.fill(0);
        due("25 gone", x.gain(0, 0), STATE);
        due("25 what above", x.gain(1, 2), BAD);
        due("25 what below", x.gain(1, -1), BAD);
        due("25 p above", x.gain(3, 0), BAD);
        due("25 p below", x.gain(-1, 0), BAD);
        due("25 bad ahead of state", x.gain(0, 2), BAD);
        DoorTown y = town("own0 0;wall0 1;room1 1;");
        due("25 WALL 0", y.gain(0, 0), 0);
        due("25 of 1", y.gain(0, 1), 1);
    }

    private static void p26Shut() {
        DoorTown x = town(RING);
        due("26 one door", x.shut(0, 4, 0), 1);
        due("26 that one", x.shut(0, 4, 1), 16);
        due("26 two doors", x.shut(0, 2, 0), 2);
        due("26 the least of four", x.shut(0, 2, 1), 1 + 4);
        due("26 of three", x.shut(0, 1, 0), 2);
        due("26 the least", x.shut(0, 1, 1), 1 + 2);
        due("26 not reached", x.shut(0, 7, 0), 0);
        due("26 not reached", x.shut(0, 7, 1), 0);
        due("26 home", x.shut(0, 0, 0), STATE);
        due("26 home", x.shut(4, 5, 1), STATE);
        due("26 what above", x.shut(0, 4, 2), BAD);
        due("26 what below", x.shut(0, 4, -1), BAD);
        due("26 r above", x.shut(0, 8, 0), BAD);
        due("26 r below", x.shut(0, -1, 0), BAD);
        due("26 p above", x.shut(5, 0, 0), BAD);
        due("26 p below", x.shut(-1, 0, 0), BAD);
        due("26 bad ahead of state", x.shut(0, 0, 2), BAD);
        due("26 nothing is changed", x.rule(2), 5);
        DoorTown y = town("house0 0 0;house0 0 1;house0 0 2;house0 0 3;house0 0 8;" + times(9, "wall0 1;"));
        due("26 all five", y.shut(0, 1, 0), 5);
        due("26 all five", y.shut(0, 1, 1), 256 + 15);
    }

    private static void p27Leave() {
        DoorTown x = town("own0 0;gaol0 0;house1 0;house1 0;wall0 1;plan0 0 1 0 2 0;");
        due("27 the owner's", x.leave(0), 0);
        due("27 the gaoler's instead", x.leave(1), 2 + 1 + 2 + 2);
        x.cut(1);
        due("27 less by leaving", x.leave(0), NONE);
        x.cut(0);
        due("27 no plan", x.leave(0), NONE);
        x.plan(1, 0);
        x.plan(0, 0);
        due("27 not more", x.leave(1), NONE);
        due("27 what above", x.leave(2), BAD);
        due("27 what below", x.leave(-1), BAD);
        due("27 nothing is changed", x.rule(3) * 10 + x.rule(2), 20);
        DoorTown y = town("own0 0;gaol0 0;own0 7;wall0 1;wall0 2;plan0 0 0 0 1 1 2 0;");
        due("27 as it is", y.runs(2), 2 + 2 + 1);
        due("27 none is more", y.leave(0), NONE);
    }

    private static void p28Kindly() {
        DoorTown x = town("own0 0 0;own0 0;own1 0;own2 1;wall0 1;");
        due("28 most are gaoled out but one", x.kindly(0, 0), 3);
        due("28 how many", x.kindly(0, 1), 1 + 2 + 2 + 2);
        due("28 free: all alike, the first", x.kindly(1, 0), 0);
        due("28 how many", x.kindly(1, 1), 5);
        x.alter(2, 1, 0);
        x.alter(3, 1, 0);
        due("28 the house", x.kindly(0, 0), 1);
        due("28 all four", x.kindly(0, 1), 8);
        x.alter(0, 1, 3);
        due("28 strangers ahead of gaolers", x.kindly(0, 0), 2);
        due("28 nothing is changed", x.one(0, 0), 0);
        due("28 what above", x.kindly(0, 2), BAD);
        due("28 what below", x.kindly(0, -1), BAD);
        due("28 p above", x.kindly(4, 0), BAD);
        due("28 p below", x.kindly(-1, 0), BAD);
    }

    private static void p29Dear() {
        DoorTown x = town(RING);
        due("29 the way to 4", x.dear(0, 0), 4);
        due("29 its worth", x.dear(0, 1), 30);
        x.price(4, 0);
        due("29 in a ring none costs", x.dear(0, 0), NONE);
        due("29 in a ring none costs", x.dear(0, 1), NONE);
        x.fill(3);
        x.price(2, 2);
        due("29 the first of two alike", x.dear(0, 0), 0);
        due("29 all behind it", x.dear(0, 1), 7);
        due("29 who reaches nothing", x.dear(4, 0), NONE);
        due("29 what above", x.dear(0, 2), BAD);
        due("29 what below", x.dear(0, -1), BAD);
        due("29 p above", x.dear(5, 0), BAD);
        due("29 p below", x.dear(-1, 0), BAD);
        due("29 nothing is changed", x.rule(2), 4);
        DoorTown y = town("own0 0 0;wall0 1;room1 1;");
        due("29 WALL 0", y.dear(0, 0), 0);
        due("29 of 1", y.dear(0, 1), 1);
    }

    // ---- doors that jam

    private static void p30Luck() {
        DoorTown x = town(RING);
        due("30 never jams", x.luck(0, 0, 4, 0), 1);
        due("30 never jams", x.luck(0, 0, 4, 1), 1);
        due("30 always jams", x.luck(10, 0, 4, 0), 0);
        due("30 always jams", x.luck(10, 0, 4, 1), 1);
        due("30 at home", x.luck(10, 0, 0, 0), 1);
        due("30 not reached", x.luck(5, 0, 7, 0), 0);
        due("30 not reached", x.luck(5, 0, 7, 1), 1);
        due("30 two ways", x.luck(5, 0, 2, 0), 7);
        due("30 two ways", x.luck(5, 0, 2, 1), 16);
        due("30 and on", x.luck(5, 0, 4, 0), 7);
        due("30 and on", x.luck(5, 0, 4, 1), 32);
        // 1 - (1 - 0.49)^2 = 0.7399
        due("30 three out of ten", x.luck(3, 0, 2, 0), 7399);
        due("30 three out of ten", x.luck(3, 0, 2, 1), 10000);
        due("30 v above", x.luck(11, 0, 2, 0), BAD);
        due("30 v below", x.luck(-1, 0, 2, 0), BAD);
        due("30 p above", x.luck(5, 5, 2, 0), BAD);
        due("30 p below", x.luck(5, -1, 2, 0), BAD);
        due("30 r above", x.luck(5, 0, 8, 0), BAD);
        due("30 r below", x.luck(5, 0, -1, 0), BAD);
        due("30 what above", x.luck(5, 0, 2, 2), BAD);
        due("30 what below", x.luck(5, 0, 2, -1), BAD);
    }

    private static void p31Mean() {
        DoorTown x = town("house0 0 0;house0 0 1;gaol3 7;wall0 1;wall1 2;");
        due("31 never jams", x.mean(0, 0, 0), 3);
        due("31 never jams", x.mean(0, 0, 1), 1);
        due("31 always jams", x.mean(10, 0, 0), 1);
        // 1 + 1/2 + 1/4
        due("31 half", x.mean(5, 0, 0), 7);
        due("31 half", x.mean(5, 0, 1), 4);
        // 1 + 0.9 + 0.81
        due("31 a tenth", x.mean(1, 0, 0), 271);
        due("31 a tenth", x.mean(1, 0, 1), 100);
        due("31 alone", x.mean(3, 2, 0), 1);
        due("31 v above", x.mean(11, 0, 0), BAD);
        due("31 v below", x.mean(-1, 0, 0), BAD);
        due("31 p above", x.mean(5, 3, 0), BAD);
        due("31 p below", x.mean(5, -1, 0), BAD);
        due("31 what above", x.mean(5, 0, 2), BAD);
        due("31 what below", x.mean(5, 0, -1), BAD);
    }

    // ---- which door it was

    private static void p32See() {
        DoorTown x = town(TOWN);
        due("32 p above", x.see(4, 0, true), BAD);
        due("32 p below", x.see(-1, 0, true), BAD);
        due("32 r above", x.see(0, 8, true), BAD);
        due("32 r below", x.see(0, -1, true), BAD);
        for (int n = 1; n <= 6; n++) {
            due("32 n-th", x.see(3, 7, n % 2 == 0), n);
        }
        due("32 full", x.see(3, 7, true), FULL);
        due("32 bad ahead of full", x.see(4, 7, true), BAD);
        due("32 six", x.count(0), 6);
    }

    private static void p33Forget() {
        DoorTown x = town(TOWN);
        due("33 none", x.forget(0), 0);
        due("33 above none", x.forget(1), BAD);
        x.see(0, 1, true);
        x.see(0, 1, false);
        due("33 both can not be", x.kinds(2), 0);
        due("33 above", x.forget(3), BAD);
        due("33 below", x.forget(-1), BAD);
        due("33 the first", x.forget(1), 2);
        due("33 is left", x.count(0), 1);
        due("33 it can be", x.kinds(2), 15);
    }

    private static void p34Kinds() {
        DoorTown x = town(TOWN);
        due("34 nothing seen", x.kinds(0), 15);
        x.see(0, 1, true);
        due("34 own, house", x.kinds(0), 3);
        due("34 another's does not matter", x.kinds(2), 15);
        x.see(3, 1, false);
        due("34 he neither", x.kinds(0), 3);
        x.see(0, 2, true);
        due("34 none", x.kinds(0), 0);
        due("34 by another's", x.kinds(1), 2 + 8);
        due("34 p above", x.kinds(4), BAD);
        due("34 p below", x.kinds(-1), BAD);
        due("34 nothing is changed", x.one(0, 0), 1);
    }

    private static void p35Walls() {
        DoorTown x = town(TOWN);
        due("35 nothing seen: none where another is", x.walls(0), 31 - 2);
        due("35 free", x.walls(2), 31 - 3);
        x.see(0, 1, true);
        due("35 where it is", x.walls(0), 1);
        x.fill(0);
        due("35 gone", x.walls(0), 1);
        x.forget(0);
        x.see(0, 3, true);
        due("35 another", x.walls(0), 8);
        due("35 he needs the owner's", x.walls(3), 0);
        due("35 a gaoler's", x.walls(2), 8);
        x.see(0, 3, false);
        due("35 none", x.walls(0), 0);
        due("35 p above", x.walls(4), BAD);
        due("35 p below", x.walls(-1), BAD);
        due("35 nothing is changed", x.one(0, 6) * 10 + x.rule(2), 21);
    }

    private static void p36Ask() {
        DoorTown x = town(TOWN);
        x.see(0, 1, true);
        due("36 one is left already", x.ask(0, 0), NONE);
        due("36 one is left already", x.ask(0, 1), NONE);
        x.forget(0);
        // the gaoler's in 2, 3 or 4: ONE 0 comes to 3 by WALL 3 alone
        due("36 whom, where", x.ask(2, 0), 3);
        due("36 two are left at the worst", x.ask(2, 1), 2);
        x.see(0, 0, false);
        due("36 none is left", x.ask(2, 0), NONE);
        due("36 what above", x.ask(2, 2), BAD);
        due("36 what below", x.ask(2, -1), BAD);
        due("36 p above", x.ask(4, 0), BAD);
        due("36 p below", x.ask(-1, 0), BAD);
        due("36 nothing is changed", x.rule(2), 2);
        DoorTown y = town("own0 0;own0 7;wall0 1;wall0 1;wall0 2;wall0 3;wall4 5;wall4 6;");
        due("36 the half, the least such", y.ask(0, 0), 1);
        due("36 four of six", y.ask(0, 1), 4);
        DoorTown z = town("own0 7;stranger1 0;own2 4;wall0 1;wall0 2;wall4 5;wall4 6;");
        z.alter(2, 1, 1);
        due("36 nobody of them is let", z.ask(1, 0), NONE);
        z.alter(2, 1, 3);
        due("36 another one is asked", z.ask(1, 0), 25);
        due("36 three are left", z.ask(1, 1), 3);
        DoorTown v = town("own0 1;wall0 1;wall4 5;");
        due("36 ONE 0, ROOM 0", v.ask(0, 0), 0);
        due("36 one is left", v.ask(0, 1), 1);
    }

    // ---- by a seed

    private static void p37Drift() {
        DoorTown x = new DoorTown();
        due("37 nobody", x.drift(1, 1, 0), STATE);
        due("37 bad ahead of state", x.drift(1, 0, 0), BAD);
        x.build(0, 1);
        due("37 a wall, nobody", x.drift(1, 1, 0), STATE);
        tell(x, "own 0 0;");
        due("37 no wall", x.drift(1, 1, 0), STATE);
        x.build(0, 1);
        due("37 hung", x.drift(1, 1, 1), 1);
        due("37 both rooms", x.drift(1, 1, 0), 2);
        due("37 free again", x.drift(1, 2, 1), 0);
        due("37 free again", x.drift(1, 2, 0), 1);
        due("37 hung again", x.drift(1, 59, 1), 1);
        due("37 sixty", x.drift(1, 60, 1), 0);
        due("37 too many", x.drift(1, 61, 1), BAD);
        due("37 too few", x.drift(1, 0, 1), BAD);
        due("37 below", x.drift(1, -1, 1), BAD);
        due("37 what above", x.drift(1, 1, 2), BAD);
        due("37 what below", x.drift(1, 1, -1), BAD);
        x.hang(0, 0);
        due("37 as it is it is filled first", x.drift(1, 1, 1), 0);
        due("37 nothing is changed", x.rule(2), 1);
        x.fill(0);
        due("37 gone stays gone", x.drift(1, 59, 1), 0);
        // of seed 1 the first three got are 16838, 5758, 10113
        DoorTown y = town("own0 0;own0 0;own0 0;own0 0;own0 0;wall0 1;wall0 2;wall0 3;wall0 4;wall0 5;wall0 6;wall0 7;");
        y.price(1, 1);
        y.hang(3, 5);
        // 16838: ONE 3 in WALL 2104 % 7 = 4, his is HUNG, none there; 5758: ONE 3 in WALL 719 % 7 = 5: it is FREE again
        due("37 can not, none there", y.drift(1, 1, 1), 1);
        due("37 its own is taken down", y.drift(1, 2, 1), 0);
        // 10113: ONE 3 in WALL 1264 % 7 = 4
        due("37 hung elsewhere", y.drift(1, 3, 1), 1);
        due("37 rooms", y.drift(1, 3, 0), 6);
        due("37 below zero", y.drift(-1, 1, 1), 2);
        due("37 far", y.drift(MIN, 1, 0) >= 6 ? 1 : 0, 1);
    }

    // ---- images, sheets

    private static void p38Keep() {
        DoorTown x = town(TOWN);
        due("38 first", x.keep(0), 0);
        due("38 again", x.keep(0), 1);
        due("38 other", x.keep(1), 0);
        due("38 below", x.keep(-1), BAD);
        due("38 above", x.keep(2), BAD);
        x.fill(0);
        x.keep(0);
        due("38 the new one", x.back(0), 1);
        due("38 the other stays", x.back(1), 2);
    }

    private static void p39Back() {
        DoorTown x = town(TOWN);
        due("39 none", x.back(0), STATE);
        due("39 below", x.back(-1), BAD);
        due("39 above", x.back(2), BAD);
        x.keep(1);
        x.alter(0, 0, 0);
        x.alter(0, 1, 3);
        x.alter(0, 2, 5);
        x.price(2, 1);
        x.build(5, 6);
        x.plan(0, 5);
        x.cut(2);
        x.plan(0, 5);
        x.fill(0);
        x.hang(3, 5);
        x.see(0, 0, true);
        due("39 none in the other", x.back(0), STATE);
        due("39 hung", x.back(1), 2);
        due("39 kind", x.one(0, 0), 1);
        due("39 house", x.one(0, 1), 1);
        due("39 home", x.one(0, 2), 0);
        due("39 worth", x.room(2, 0), 40);
        due("39 walls", x.rule(1), 5);
        due("39 acts", x.act(2, 0) * 10 + x.act(2, 1), 24);
        due("39 doors", x.wall(0, 2), 0);
        due("39 free", x.rule(4), 12);
        due("39 seen stays", x.count(0), 1);
        due("39 a new wall is empty", x.build(1, 2), 6);
        due("39 a new wall is empty", x.wall(5, 2), NONE);
        due("39 it stays", x.back(1), 2);
        due("39 it is not what is", x.rule(1), 5);
    }

    private static void p40Sheet() {
        DoorTown x = new DoorTown();
        due("40 none", x.sheet(0, 0, 0), 1);
        due("40 none is not nothing", x.count(3), 0);
        due("40 forty", x.sheet(0, 2, 40), 1);
        due("40 forty", x.count(3), 40);
        due("40 n above", x.sheet(0, 2, 41), BAD);
        due("40 n below", x.sheet(0, 2, -1), -14);
        due("40 n far below", x.sheet(3, 0, MIN), -14);
        due("40 k above", x.sheet(4, 0, 1), BAD);
        due("40 k below", x.sheet(-1, 0, 1), BAD);
        due("40 lane above", x.sheet(0, 3, 1), BAD);
        due("40 lane below", x.sheet(0, -1, 1), BAD);
        due("40 bad ahead of size", x.sheet(4, 0, -1), BAD);
        due("40 bad ahead of size", x.sheet(0, 3, -1), BAD);
        due("40 it stays", x.count(3), 40);
        due("40 refused: nothing", x.lay(3, 0, 0), -11);
        tell(x, "own0 0;wall0 1;wall0 1;");
        x.sheet(0, 1, 2);
        x.lay(0, 1, 1);
        x.sheet(0, 1, 2);
        due("40 cells 0", x.read(0, 1, 0, 1), 1);
        due("40 cells 0", x.one(0, 3), 0);
    }

    private static void p41Lay() {
        DoorTown x = town("own0 0;own0 0;own0 0;wall0 1;wall0 2;wall0 3;");
        due("41 k above", x.lay(4, 0, 0), BAD);
        due("41 k below", x.lay(-1, 0, 0), BAD);
        due("41 nothing", x.lay(2, 0, 0), -11);
        due("41 nothing ahead of index", x.lay(2, -1, 0), -11);
        for (int lane = 0; lane < 3; lane++) {
            x.sheet(lane, lane, 2);
            due("41 first", x.lay(lane, 0, 65536 + 256 + 1), 1);
            due("41 last", x.lay(lane, 1, 65536 + 2), 1);
            due("41 behind", x.lay(lane, 2, 0), -12);
            due("41 ahead", x.lay(lane, -1, 0), -12);
            due("41 far", x.lay(lane, MAX, 0), -12);
        }
        due("41 an int is whole", x.read(2, 2, 0, 1), -20);
        due("41 a short has 257", x.read(1, 1, 0, 1), -20);
        due("41 a byte has its lowest bits", x.read(0, 0, 0, 1), 1);
        due("41 ONE 1 in WALL 2", x.one(1, 3), 2);
        x.lay(1, 0, 65536);
        x.lay(1, 1, 65536 * 7 + 1);
        due("41 a short has its lowest bits", x.read(1, 1, 0, 1), 1);
        due("41 ONE 0 in WALL 1", x.one(0, 3), 1);
        x.lay(0, 0, 2);
        x.lay(0, 1, 128);
        due("41 with a sign", x.read(0, 0, 0, 1), -20);
    }

    private static DoorTown readers() {
        DoorTown x = town("own0 0;own0 1;house0 2;wall0 1;wall1 2;wall2 3;");
        x.sheet(1, 1, 6);
        int[] cells = {0, 0, 1, 1, 2, 0};
        for (int i = 0; i < 6; i++) {
            x.lay(1, i, cells[i]);
        }
        return x;
    }

    private static void p42Read() {
        DoorTown x = readers();
        due("42 two", x.read(1, 1, 0, 2), 2);
        due("42 hung", x.rule(2), 2);
        due("42 where", x.one(1, 3), 1);
        x = readers();
        due("42 the third is refused", x.read(1, 1, 0, 3), -22);
        due("42 none came", x.rule(2), 0);
        due("42 from cell 2", x.read(1, 1, 2, 2), 2);
        due("42 from cell 2", x.one(2, 3), 0);
        x = readers();
        x.lay(1, 4, 3);
        due("42 no such one", x.read(1, 1, 0, 3), -22);
        x.lay(1, 4, 2);
        x.lay(1, 5, -1);
        due("42 no such wall", x.read(1, 1, 0, 3), -22);
        x.lay(1, 5, 3);
        due("42 no such wall", x.read(1, 1, 0, 3), -22);
        x.lay(1, 4, 1);
        x.lay(1, 5, 2);
        due("42 it is hung by now", x.read(1, 1, 0, 3), -22);
        due("42 ONE 0 in WALL 1", x.read(1, 1, 1, 1), 1);
        due("42 the first is refused", x.read(1, 1, 1, 1), -20);
        due("42 none is read", x.read(1, 1, 0, 0), 0);
        due("42 k above", x.read(4, 1, 0, 1), BAD);
        due("42 k below", x.read(-1, 1, 0, 1), BAD);
        due("42 lane above", x.read(1, 3, 0, 1), BAD);
        due("42 lane below", x.read(1, -1, 0, 1), BAD);
        due("42 n above", x.read(1, 1, 0, 21), BAD);
        due("42 n below", x.read(1, 1, 0, -1), BAD);
        due("42 twenty may be", x.read(2, 1, 0, 20), 0);
    }

    private static void p42ReadFaults() {
        DoorTown x = readers();
        due("42 whole ones ahead came", x.read(1, 1, 2, 3), 2);
        due("42 index", x.torn(), 2);
        due("42 hung", x.rule(2), 2);
        x = readers();
        x.sheet(1, 1, 3);
        due("42 half an act", x.read(1, 1, 0, 2), 1);
        due("42 index", x.torn(), 2);
        due("42 the first came", x.one(0, 3), 0);
        x = readers();
        due("42 refused ahead of the fault", x.read(1, 1, 0, 4), -22);
        due("42 another lane", x.read(1, 0, 0, 1), 0);
        due("42 cast", x.torn(), 3);
        due("42 another lane, whatever the cell", x.read(1, 2, 99, 1), 0);
        due("42 cast ahead of index", x.torn(), 3);
        due("42 nothing", x.read(0, 1, 99, 1), 0);
        due("42 null", x.torn(), 1);
        due("42 ahead of the first cell", x.read(1, 1, -1, 1), 0);
        due("42 index", x.torn(), 2);
        due("42 far", x.read(1, 1, MAX, 1) + x.read(1, 1, MIN, 20) + x.read(1, 1, MAX - 1, 20), 0);
        due("42 index", x.torn(), 2);
        due("42 none is read of nothing", x.read(0, 1, 0, 0), 0);
        due("42 no fault", x.torn(), 0);
        due("42 nothing is hung", x.rule(2), 0);
        x.sheet(3, 0, 0);
        due("42 no cells", x.read(3, 0, 0, 1), 0);
        due("42 index", x.torn(), 2);
    }

    private static void p43Torn() {
        DoorTown x = readers();
        due("43 none yet", x.torn(), 0);
        x.read(0, 0, 0, 1);
        due("43 null", x.torn(), 1);
        x.read(1, 1, 0, 3);
        due("43 a refused one leaves it", x.torn(), 1);
        x.read(1, 1, 0, 21);
        due("43 a bad one leaves it", x.torn(), 1);
        x.sheet(3, 2, -1);
        x.lay(0, 0, 0);
        x.lay(1, 9, 0);
        due("43 of read() alone", x.torn(), 1);
        x.read(1, 1, 0, 2);
        due("43 well", x.torn(), 0);
        x.read(1, 2, 0, 2);
        x.text();
        due("43 a text leaves it", x.torn(), 3);
    }

    private static void p44Count() {
        DoorTown x = town(TOWN);
        due("44 seen", x.count(0), 0);
        x.see(0, 0, true);
        due("44 seen", x.count(0), 1);
        due("44 images", x.count(1), 0);
        x.keep(1);
        due("44 images", x.count(1), 1);
        x.keep(0);
        due("44 images", x.count(1), 2);
        due("44 bytes", x.count(2), 0);
        x.feed('x');
        due("44 bytes", x.count(2), 1);
        due("44 nothing", x.count(3), NONE);
        x.sheet(1, 0, 7);
        due("44 nothing in sheet 0", x.count(3), NONE);
        x.sheet(0, 0, 9);
        due("44 cells", x.count(3), 9);
        due("44 worth", x.count(4), 49);
        x.price(0, 1);
        due("44 worth", x.count(4), 50);
        due("44 gone", x.count(5), 0);
        x.fill(0);
        x.fill(1);
        due("44 gone", x.count(5), 2);
        due("44 below", x.count(-1), BAD);
        due("44 above", x.count(6), BAD);
    }
}
