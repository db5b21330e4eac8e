/** The sentences under 'Terms' but those of the text (TextBoundaries), each with a test of its own. */
final class TermsBoundaries extends Asking {
    static final String FIVE = "own0 0;own0 0;own0 0;own0 0;own0 0;";
    static final String NINE = "wall0 1;wall0 1;wall0 1;wall0 1;wall0 1;wall0 1;wall0 1;wall0 1;wall0 1;";
    static final String SIX = "plan0 0 0 0 0 0 0 0 0 0 0 0;";

    private TermsBoundaries() {
    }

    static void ask(Document d) {
        d.part("What it is", "An object is used for at most 512 calls", TermsBoundaries::theLastCall);
        askAnswers(d);
        askWhatThereIs(d);
        askLets(d);
        askWays(d);
        askDoors(d);
        askSheets(d);
    }

    private static void theLastCall() {
        DoorTown x = town("own0 0;wall0 1;");
        for (int calls = 17; calls <= 510; calls++) {
            due("a call between", x.price(0, calls % 2), 1 - calls % 2);
        }
        due("the 511th call", x.hang(0, 0), 3);
        due("the 512th call", x.one(0, 4), 3);
    }

    // ---- answers

    private static void askAnswers(Document d) {
        d.term("Answers: BAD -1 (a number is not as told, there is no such ONE, WALL, ROOM, ACT, IMAGE, SHEET),",
            TermsBoundaries::badIsNoSuch);
        d.term("STATE -2 (as told),", () -> due("STATE", DoorTown.STATE, -2));
        d.term("FULL -3,", () -> due("FULL", DoorTown.FULL, -3));
        d.term("NONE -4 (there is none),", () -> due("NONE", DoorTown.NONE, -4));
        d.term("the first that fits;", TermsBoundaries::badAheadOfState);
        d.term("the first that fits;", TermsBoundaries::badAheadOfFull);
        d.term("the first that fits;", TermsBoundaries::badAheadOfNone);
        d.term("the first that fits;", TermsBoundaries::badAheadOfFaults);
        d.term("the first that fits;", TermsBoundaries::stateAheadOfNone);
        d.term("what is refused changes nothing (but THE TAPE, as told).", Refusals::ask);
        d.term("What is numbered has its numbers from 0 on, as it comes, where nothing else is told.",
            TermsBoundaries::numbersFromNought);
        d.term("Fractions are in lowest terms, told as two numbers, first the numerator, then the denominator,",
            TermsBoundaries::lowestTerms);
        d.term("which is above 0 (0 is 0 by 1).", TermsBoundaries::noughtByOne);
    }

    private static void badIsNoSuch() {
        DoorTown x = new DoorTown();
        due("BAD", DoorTown.BAD, -1);
        never("no ONE", p -> x.one(p, 0));
        never("no WALL", w -> x.wall(w, 0));
        never("no ACT", i -> x.act(i, 0));
        due("no ROOM", x.room(8, 0), BAD);
        due("no IMAGE", x.keep(2), BAD);
        due("no SHEET", x.sheet(4, 0, 0), BAD);
    }

    private static void badAheadOfState() {
        DoorTown x = town("own0 0 0;own0 0;wall0 1;wall1 2;");
        due("HUNG already, in no such WALL", x.hang(0, 2), BAD);
        due("no such ONE, where one is", x.hang(2, 0), BAD);
        due("HUNG, to no such ROOM", x.best(0, 8, 0), BAD);
        due("HUNG, best what", x.best(0, 1, 2), BAD);
        due("HUNG, gain what", x.gain(0, 2), BAD);
        due("HOME, shut what", x.shut(0, 0, 2), BAD);
        DoorTown nobody = new DoorTown();
        due("nobody, n below", nobody.drift(1, 0, 0), BAD);
        due("nobody, n above", nobody.drift(1, 61, 0), BAD);
        due("nobody, what", nobody.drift(1, 1, 2), BAD);
        due("no IMAGE told, none such", nobody.back(2), BAD);
    }

    private static void badAheadOfFull() {
        DoorTown x = town(FIVE + NINE + SIX);
        for (int i = 0; i < 6; i++) {
            x.see(0, 0, true);
        }
        due("a WALL alike", x.build(3, 3), BAD);
        due("a WALL to no such ROOM", x.build(3, 8), BAD);
        due("an ACT of no such ONE", x.plan(5, 0), BAD);
        due("an ACT in no such WALL", x.plan(0, 9), BAD);
        due("no such ONE is seen", x.see(5, 0, true), BAD);
        due("in no such ROOM", x.see(0, 8, true), BAD);
        for (int i = 0; i < 160; i++) {
            x.feed(' ');
        }
        due("no such byte", x.feed(128), BAD);
        due("no such byte", x.feed(-1), BAD);
    }

    private static void badAheadOfNone() {
        DoorTown x = town("own0 0 0;own0 0;wall0 1;");
        due("not reached, i above", x.way(1, 7, 7), BAD);
        due("not reached, i below", x.way(1, 7, -1), BAD);
        due("no WALL is left, what", x.best(1, 7, 2), BAD);
        due("nobody, what", x.friend(1, 7, 2), BAD);
        due("by none, what", x.gain(1, 2), BAD);
        due("no ACT, what", x.leave(2), BAD);
        due("none costs, what", x.dear(1, 2), BAD);
        due("none is left, what", x.ask(1, 2), BAD);
        due("FREE, what", x.one(1, 7), BAD);
    }

    private static void badAheadOfFaults() {
        DoorTown x = new DoorTown();
        due("no such SHEET, of size -1", x.sheet(4, 0, -1), BAD);
        due("no such lane, of size -1", x.sheet(0, 3, -1), BAD);
        due("no such SHEET, CELL -1", x.lay(4, -1, 0), BAD);
        due("no such lane of nothing", x.read(0, 3, 0, 1), BAD);
        due("too many of nothing", x.read(0, 0, 0, 21), BAD);
        due("no such SHEET, n 0", x.read(4, 0, 0, 0), BAD);
        due("no FAULT was met", x.torn(), 0);
    }

    private static void stateAheadOfNone() {
        DoorTown x = town("own0 0 0;own0 0;wall0 1;wall1 2;");
        due("HUNG, and by none", x.best(0, 7, 0), STATE);
        due("HUNG, and no GAIN", x.gain(0, 0), STATE);
        x.fill(0);
        due("GONE, and by none", x.best(0, 7, 0), STATE);
        due("GONE, and no GAIN", x.gain(0, 0), STATE);
    }

    private static void numbersFromNought() {
        DoorTown x = town("own1 5;wall2 3;house2 6;wall3 4;plan1 0 0 1;");
        due("the first ONE", x.one(0, 2), 5);
        due("the second ONE", x.one(1, 2), 6);
        due("no third", x.one(2, 2), BAD);
        due("the first WALL", x.wall(0, 0), 2);
        due("the second WALL", x.wall(1, 0), 3);
        due("the third WALL is the third that comes", x.build(6, 7), 3);
        due("it is numbered 2", x.wall(2, 0), 6);
        due("the first ACT", x.act(0, 0), 1);
        due("the second ACT", x.act(1, 0), 0);
        due("the third ACT that comes", x.plan(1, 2), 3);
        due("it is numbered 2", x.act(2, 1), 2);
    }

    private static void lowestTerms() {
        DoorTown x = town("own0 0 0;own0 0 1;wall0 1;wall1 2;");
        // half of the time, be there ever so many other DOORS: 50 of 100
        due("the numerator is first", x.luck(5, 0, 1, 0), 1);
        due("the denominator is second", x.luck(5, 0, 1, 1), 2);
        due("4 of 10", x.luck(6, 0, 1, 0), 2);
        due("4 of 10", x.luck(6, 0, 1, 1), 5);
        due("3 of 10 is as it is", x.luck(7, 0, 1, 0), 3);
        due("3 of 10 is as it is", x.luck(7, 0, 1, 1), 10);
        due("1 and 5 of 10", x.mean(5, 0, 0), 3);
        due("1 and 5 of 10", x.mean(5, 0, 1), 2);
        due("1 and 4 of 10", x.mean(6, 0, 0), 7);
        due("1 and 4 of 10", x.mean(6, 0, 1), 5);
    }

    private static void noughtByOne() {
        DoorTown x = town("own0 0 0;own0 0 1;wall0 1;wall1 2;");
        due("never", x.luck(3, 0, 7, 0), 0);
        due("never is by 1", x.luck(3, 0, 7, 1), 1);
        due("jams ever", x.luck(10, 0, 1, 0), 0);
        due("jams ever is by 1", x.luck(10, 0, 1, 1), 1);
        due("ever", x.luck(0, 0, 1, 0), 1);
        due("ever is by 1", x.luck(0, 0, 1, 1), 1);
        due("at home alone", x.mean(10, 0, 1), 1);
    }

    // ---- what there is

    private static void askWhatThereIs(Document d) {
        d.term("ROOMS 0 to 7, each of a WORTH (0 to 99; 0 at first).", TermsBoundaries::rooms);
        d.term("WALLS (9 at most), by order, each between two ROOMS A, B.", TermsBoundaries::nineWalls);
        d.term("PEOPLE (5 at most), by order, each a ONE of a HOUSE (0 to 3), at HOME in a ROOM,",
            TermsBoundaries::fivePeople);
        d.term("with a DOOR of a KIND (0 own, 1 house, 2 stranger, 3 gaol),", TermsBoundaries::fourKinds);
        d.term("that is FREE (at first), HUNG in a WALL (one at most in each) or GONE.", TermsBoundaries::freeHungGone);
        d.term("THE PLAN: ACTS, one behind another (6 at most): a ONE, a WALL.", TermsBoundaries::sixActs);
    }

    private static void rooms() {
        DoorTown x = new DoorTown();
        bounds("ROOM", 0, 7, r -> x.room(r, 0));
        bounds("ROOM to price", 0, 7, r -> x.price(r, 1));
        bounds("WORTH", 0, 99, v -> x.price(3, v));
        DoorTown y = new DoorTown();
        for (int r = 0; r < 8; r++) {
            due("WORTH at first of " + r, y.room(r, 0), 0);
        }
    }

    private static void nineWalls() {
        DoorTown x = new DoorTown();
        for (int w = 0; w < 9; w++) {
            due("a WALL more", x.build(w % 7, 7), w + 1);
        }
        due("the tenth", x.build(0, 7), FULL);
        for (int w = 0; w < 9; w++) {
            due("A of " + w, x.wall(w, 0), w % 7);
            due("B of " + w, x.wall(w, 1), 7);
        }
        due("no tenth", x.wall(9, 0), BAD);
    }

    private static void fivePeople() {
        DoorTown x = town("own0 7;own1 6;own2 5;own3 4;own3 0;");
        int[] houses = {0, 1, 2, 3, 3};
        int[] homes = {7, 6, 5, 4, 0};
        for (int p = 0; p < 5; p++) {
            due("HOUSE of " + p, x.one(p, 1), houses[p]);
            due("HOME of " + p, x.one(p, 2), homes[p]);
        }
        due("no sixth", x.one(5, 0), BAD);
        refused("own0 0;own0 0;own0 0;own0 0;own0 0;own0 0;", 5, 35);
    }

    private static void fourKinds() {
        DoorTown x = town("own0 0;house0 0;stranger0 0;gaol0 0;");
        for (int p = 0; p < 4; p++) {
            due("KIND of " + p, x.one(p, 0), p);
        }
        bounds("KIND", 0, 3, v -> x.alter(0, 0, v));
    }

    private static void freeHungGone() {
        DoorTown x = town("own0 0;own0 0;wall0 1;wall1 2;");
        due("FREE at first", x.one(0, 6), 0);
        x.hang(0, 0);
        due("HUNG", x.one(0, 6), 1);
        due("one at most in each", x.hang(1, 0), STATE);
        due("in one WALL at most", x.hang(0, 1), STATE);
        x.fill(0);
        due("GONE", x.one(0, 6), 2);
        due("for good", x.hang(0, 1), STATE);
        due("the WALL may have another then", x.hang(1, 0), 3);
    }

    private static void sixActs() {
        DoorTown x = town("own0 0;own0 0;wall0 1;wall0 1;");
        for (int i = 0; i < 6; i++) {
            due("an ACT more", x.plan(i % 2, i / 3), i + 1);
        }
        due("the seventh", x.plan(0, 0), FULL);
        for (int i = 0; i < 6; i++) {
            due("the ONE of " + i, x.act(i, 0), i % 2);
            due("the WALL of " + i, x.act(i, 1), i / 3);
        }
        due("no seventh", x.act(6, 0), BAD);
    }

    // ---- whom a DOOR LETS

    private static void askLets(Document d) {
        d.term("LETS by KIND, whom: own its owner;", TermsBoundaries::ownLets);
        d.term("house its owner and all of his HOUSE;", TermsBoundaries::houseLets);
        d.term("stranger all whom a house one would not let;", TermsBoundaries::strangerLets);
        d.term("gaol all whom an own one would not let.", TermsBoundaries::gaolLets);
    }

    private static void lets(String kind, int alone, int amongAll) {
        DoorTown x = town(kind + "1 0 0;wall0 1;");
        due(kind + " alone", x.wall(0, 3), alone);
        due(kind + " alone passes", x.room(1, 1), alone);
        DoorTown y = town("own1 0;own2 0;" + kind + "1 0 0;own0 0;own3 0;wall0 1;");
        due(kind + " among all", y.wall(0, 3), amongAll);
        due(kind + " among all passes", y.room(1, 1), amongAll);
    }

    private static void ownLets() {
        lets("own", 1, 4);
    }

    private static void houseLets() {
        lets("house", 1, 4 + 1);
    }

    private static void strangerLets() {
        lets("stranger", 0, 2 + 8 + 16);
    }

    private static void gaolLets() {
        lets("gaol", 0, 1 + 2 + 8 + 16);
    }

    // ---- ways

    private static void askWays(Document d) {
        d.term("A ONE PASSES a WALL, from A to B and from B to A, in which a DOOR is HUNG that LETS him.",
            TermsBoundaries::passes);
        d.term("He REACHES his HOME and all ROOMS to which he comes by PASSING WALLS one behind another;",
            TermsBoundaries::reaches);
        d.term("STEPS to a ROOM: by how many at least.", TermsBoundaries::fewestSteps);
        d.term("GAIN of a ONE: WORTH of all ROOMS that he REACHES, but his HOME, summed.", TermsBoundaries::gain);
    }

    private static void passes() {
        DoorTown x = town("house0 0 0;house0 1;own1 0;wall0 1;wall0 1;wall1 2;");
        due("from A to B", x.one(0, 4), 3);
        due("from B to A", x.one(1, 4), 3);
        due("it lets him not", x.one(2, 4), 1);
        due("a WALL without a DOOR", x.steps(0, 2), NONE);
        x.fill(0);
        due("a DOOR that is GONE, from A", x.one(0, 4), 1);
        due("a DOOR that is GONE, from B", x.one(1, 4), 2);
    }

    private static void reaches() {
        DoorTown x = town("house0 5;own1 7;");
        due("HOME, where there is no WALL", x.one(0, 4), 32);
        due("HOME 7", x.one(1, 4), 128);
        // five DOORS in a row, told from the far end: 0-1-2-3-4-5
        DoorTown y = town("house0 0 0;house0 5 1;house0 3 2;house0 3 3;house0 7 4;"
            + "wall4 5;wall4 3;wall3 2;wall1 2;wall1 0;");
        due("one behind another, from the end", y.one(0, 4), 63);
        due("from the other end", y.one(1, 4), 63);
        due("from the midst", y.one(2, 4), 63);
        due("from elsewhere", y.one(4, 4), 128);
    }

    private static void fewestSteps() {
        // a ring of five: 0-1-2-3-4-0
        DoorTown x = town("house0 0 0;house0 1 1;house0 2 2;house0 3 3;house0 4 4;wall0 1;wall1 2;wall2 3;wall3 4;wall4 0;");
        int[] want = {0, 1, 2, 2, 1, NONE, NONE, NONE};
        for (int r = 0; r < 8; r++) {
            due("STEPS to " + r, x.steps(0, r), want[r]);
        }
    }

    private static void gain() {
        DoorTown x = town("own0 0 0;own0 0;own0 7;wall0 1;room0 99;room1 98;room2 97;room7 96;");
        due("but his HOME", x.one(0, 5), 98);
        due("HOME alone", x.one(1, 5), 0);
        due("HOME 7 alone", x.one(2, 5), 0);
        DoorTown y = town("house0 1 0;house0 1 1;house0 1 2;house0 1 3;house0 1 4;"
            + "wall1 0;wall1 2;wall1 3;wall1 4;wall1 7;room0 99;room2 99;room3 99;room4 99;room7 99;");
        due("summed, both ends too", y.one(0, 5), 5 * 99);
    }

    // ---- doors

    private static void askDoors(Document d) {
        d.term("TO HANG: a FREE DOOR in a WALL in which there is none: it is HUNG there.", TermsBoundaries::toHang);
        d.term("TO FILL a WALL: its DOOR is GONE.", TermsBoundaries::toFill);
        d.term("BY THE PLAN: ACTS, each the ONE HANGS his DOOR in the WALL;", TermsBoundaries::byThePlan);
        d.term("those that can not be are passed over.", TermsBoundaries::passedOver);
        d.term("SEEN (6): a ONE REACHES a ROOM, or not.", TermsBoundaries::sixSeen);
    }

    private static void toHang() {
        DoorTown x = town("own0 0;own0 0;wall0 1;wall0 1;");
        due("FREE, none there", x.hang(0, 1), 3);
        due("it is HUNG there", x.wall(1, 2), 0);
        due("it is HUNG there", x.one(0, 3), 1);
        due("not FREE", x.hang(0, 0), STATE);
        due("one there", x.hang(1, 1), STATE);
        due("not there", x.wall(0, 2), NONE);
    }

    private static void toFill() {
        DoorTown x = town("own0 0 0;wall0 1;wall0 1;");
        due("whose", x.fill(0), 0);
        due("GONE", x.one(0, 6), 2);
        due("HUNG nowhere", x.one(0, 3), NONE);
        due("the WALL has none", x.wall(0, 2), NONE);
        due("GONE is not FREE", x.hang(0, 0), STATE);
        due("GONE is not FREE", x.rule(4), 0);
    }

    private static void byThePlan() {
        DoorTown x = town("house0 0;house0 1;house0 2;house0 3;house0 4;"
            + "wall0 1;wall1 2;wall2 3;wall3 4;wall4 5;plan0 4 1 3 2 2 3 1 4 0;");
        due("all five came", x.runs(0), 5);
        due("all are HUNG", x.runs(3), 5);
        due("from end to end", x.ahead(0), 63);
        due("each of 5 REACHES 6", x.runs(2), 30);
    }

    private static void passedOver() {
        DoorTown x = town("own0 0;own0 0 0;own0 0;own0 0;wall0 1;wall0 2;wall0 3;wall0 4;"
            + "plan1 1 0 0 0 2 2 2 2 3;");
        // ONE 1 is HUNG, WALL 0 is taken, ONE 0 comes, WALL 2 is taken, ONE 2 comes
        due("two came", x.runs(0), 2);
        due("the first", x.runs(1), 0);
        due("three are HUNG", x.runs(3), 3);
        due("later ACTS come", x.ahead(2), 1 + 16);
        due("an ACT that came", x.ahead(0), 1 + 8);
        x.fill(0);
        due("GONE is passed over, its WALL is not", x.runs(0), 2);
        due("ONE 0 in WALL 0 now, so not in 2; ONE 2 in 2", x.ahead(0), 3);
    }

    private static void sixSeen() {
        DoorTown x = town("own0 0 0;wall0 1;");
        for (int n = 1; n <= 6; n++) {
            due("SEEN", x.see(0, n % 2, true), n);
        }
        due("the seventh", x.see(0, 0, true), FULL);
        due("all six are so", x.kinds(0), 3);
        x.forget(5);
        x.see(0, 1, false);
        due("the sixth counts: not so", x.kinds(0), 0);
        x.forget(0);
        x.see(0, 1, false);
        due("a ROOM that he REACHES not", x.kinds(0), 4 + 8);
    }

    // ---- sheets

    private static void askSheets(Document d) {
        d.term("SHEETS 0 to 3 are rows of BYTES (lane 0), SHORTS (1), INTS (2), all with a sign,", TermsBoundaries::lanes);
        d.term("with 0 to 40 CELLS,", TermsBoundaries::cells);
        d.term("or nothing (at first).", TermsBoundaries::nothingAtFirst);
        d.term("A FAULT is what the machine finds: 1 NULL (nothing),", TermsBoundaries::nullFault);
        d.term("2 INDEX,", TermsBoundaries::indexFault);
        d.term("3 CAST (another lane),", TermsBoundaries::castFault);
        d.term("4 SIZE (below 0).", TermsBoundaries::sizeFault);
    }

    private static void lanes() {
        bounds("SHEET", 0, 3, k -> new DoorTown().sheet(k, 0, 1));
        bounds("lane", 0, 2, lane -> new DoorTown().sheet(0, lane, 1));
        // ONE 0 by v, WALL 0: only what v's lowest bits are is laid
        int[] values = {0, 256, 65536, -256, 128, 255, 32768, -1, MIN};
        int[][] came = {{1, 1, 1, 1, -20, -20, 1, -20, 1}, {1, -20, 1, -20, -20, -20, -20, -20, 1},
            {1, -20, -20, -20, -20, -20, -20, -20, -20}};
        for (int lane = 0; lane < 3; lane++) {
            for (int i = 0; i < values.length; i++) {
                DoorTown x = town("own0 0;wall0 1;");
                x.sheet(0, lane, 2);
                x.lay(0, 0, values[i]);
                due("lane " + lane + " of " + values[i], x.read(0, lane, 0, 1), came[lane][i]);
            }
        }
    }

    private static void cells() {
        DoorTown x = new DoorTown();
        for (int lane = 0; lane < 3; lane++) {
            due("no CELL", x.sheet(0, lane, 0), 1);
            due("no CELL", x.count(3), 0);
            due("forty", x.sheet(0, lane, 40), 1);
            due("forty", x.count(3), 40);
            due("forty-one", x.sheet(0, lane, 41), BAD);
            due("the last CELL", x.lay(0, 39, 1), 1);
            due("behind it", x.lay(0, 40, 1), -12);
        }
    }

    private static void nothingAtFirst() {
        DoorTown x = new DoorTown();
        due("SHEET 0", x.count(3), NONE);
        for (int k = 0; k < 4; k++) {
            due("SHEET " + k, x.lay(k, 0, 0), -11);
        }
    }

    private static void nullFault() {
        DoorTown x = town("own0 0;wall0 1;");
        for (int lane = 0; lane < 3; lane++) {
            due("nothing is read", x.read(lane, lane, 0, 1), 0);
            due("NULL", x.torn(), 1);
            due("nothing is laid on", x.lay(lane, 0, 0), -11);
        }
    }

    private static void indexFault() {
        DoorTown x = town("own0 0;wall0 1;");
        x.sheet(0, 1, 3);
        int[] outside = {-1, 3, 4, -2, MIN, MAX, MAX - 1};
        for (int cell : outside) {
            due("INDEX " + cell, x.lay(0, cell, 0), -12);
            due("read of " + cell, x.read(0, 1, cell, 1), 0);
            due("INDEX of " + cell, x.torn(), 2);
        }
        due("the first CELL is within, the second not", x.read(0, 1, 2, 1), 0);
        due("INDEX", x.torn(), 2);
        due("nothing is HUNG", x.rule(2), 0);
    }

    private static void castFault() {
        for (int lane = 0; lane < 3; lane++) {
            for (int as = 0; as < 3; as++) {
                DoorTown x = town("own0 0;wall0 1;");
                x.sheet(3, lane, 2);
                due("lane " + lane + " as " + as, x.read(3, as, 0, 1), lane == as ? 1 : 0);
                due("CAST of " + lane + " as " + as, x.torn(), lane == as ? 0 : 3);
            }
        }
    }

    private static void sizeFault() {
        DoorTown x = new DoorTown();
        for (int lane = 0; lane < 3; lane++) {
            due("below 0", x.sheet(0, lane, -1), -14);
            due("far below 0", x.sheet(0, lane, MIN), -14);
            due("there is nothing yet", x.count(3), NONE);
            due("0 is not below", x.sheet(1, lane, 0), 1);
        }
    }
}
