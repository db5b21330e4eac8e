/** The sentences of promises 38 to 44 (images, sheets), each with a test of its own. */
final class SheetBoundaries extends Asking {
    private static final String FIVE = TermsBoundaries.FIVE, NINE = TermsBoundaries.NINE;
    private static final String THREE = "own0 0;own0 0;own0 0;wall0 1;wall0 2;wall0 3;";

    private SheetBoundaries() {
    }

    static void ask(Document d) {
        askImages(d);
        askSheet(d);
        askRead(d);
        askReadFaults(d);
        askCount(d);
    }

    // ---- 38, 39

    private static void askImages(Document d) {
        d.promise(38, "IMAGE k (0, 1) is", SheetBoundaries::twoImages);
        d.promise(38, "PEOPLE, DOORS, WALLS, ROOMS (all of them), THE PLAN:", SheetBoundaries::allOfThem);
        d.promise(38, "whether there was one (1, 0).", SheetBoundaries::wasThereOne);
        d.promise(38, "BAD.", () -> {
            bounds("k", 0, 1, k -> new DoorTown().keep(k));
            DoorTown x = new DoorTown();
            x.keep(2);
            x.keep(-1);
            due("none is kept", x.count(1), 0);
        });
        d.promise(39, "All is as IMAGE k:", SheetBoundaries::backAsKept);
        d.promise(39, "DOORS that are HUNG.", SheetBoundaries::backHung);
        d.promise(39, "BAD;", () -> {
            bounds("k", 0, 1, k -> new DoorTown().back(k));
            bounds("k of two", 0, 1, k -> {
                DoorTown x = town(FIVE);
                x.keep(0);
                x.keep(1);
                return x.back(k);
            });
        });
        d.promise(39, "STATE: there is none.", SheetBoundaries::backNone);
    }

    private static void twoImages() {
        DoorTown x = town(THREE);
        x.keep(0);
        x.hang(0, 0);
        x.keep(1);
        x.hang(1, 1);
        due("the one", x.back(0), 0);
        due("the other", x.back(1), 1);
        due("the one again", x.back(0), 0);
        x.hang(2, 2);
        x.keep(0);
        due("the other stays", x.back(1), 1);
        due("the new one", x.back(0), 1);
        due("it is the new one", x.one(2, 3), 2);
    }

    private static void allOfThem() {
        DoorTown x = town("house1 2 1;own0 0;gaol3 7 0;wall0 1;wall2 3;room0 5;room7 6;plan0 0 1 1;");
        x.fill(0);
        x.keep(1);
        x.alter(0, 0, 3);
        x.alter(0, 1, 0);
        x.alter(0, 2, 0);
        x.fill(1);
        x.hang(1, 0);
        x.build(4, 5);
        x.price(0, 0);
        x.price(7, 9);
        x.cut(1);
        x.plan(2, 2);
        due("HUNG", x.back(1), 1);
        due("KIND", x.one(0, 0), 1);
        due("HOUSE", x.one(0, 1), 1);
        due("HOME", x.one(0, 2), 2);
        due("where it is HUNG", x.one(0, 3), 1);
        due("FREE", x.rule(4), 2);
        due("GONE", x.one(2, 6), 2);
        due("whose", x.wall(1, 2), 0);
        due("nobody's", x.wall(0, 2), NONE);
        due("WALLS", x.rule(1), 2);
        due("WORTH of ROOM 0", x.room(0, 0), 5);
        due("WORTH of ROOM 7", x.room(7, 0), 6);
        due("ACTS", x.rule(3), 2);
        due("the ONE of the second", x.act(1, 0), 1);
        due("the WALL of the second", x.act(1, 1), 1);
    }

    private static void wasThereOne() {
        DoorTown x = new DoorTown();
        due("the first", x.keep(0), 0);
        due("over it", x.keep(0), 1);
        due("the other's first", x.keep(1), 0);
        due("over it", x.keep(1), 1);
        x.back(0);
        due("it stays when all is as it is", x.keep(0), 1);
        tell(x, "");
        due("a text took them", x.keep(0), 0);
    }

    private static void backAsKept() {
        DoorTown x = town(THREE);
        x.keep(0);
        x.hang(0, 0);
        x.build(0, 7);
        due("back", x.back(0), 0);
        due("it is FREE", x.rule(4), 7);
        due("the WALL more is gone", x.wall(3, 0), BAD);
        x.hang(1, 1);
        due("what is done then is not kept", x.back(0), 0);
        due("it is FREE", x.one(1, 6), 0);
        due("the IMAGE stays", x.count(1), 1);
        due("a WALL more has no DOOR", x.build(0, 7), 4);
        due("a WALL more has no DOOR", x.wall(3, 2), NONE);
        x.see(0, 7, true);
        x.sheet(0, 0, 3);
        x.feed(' ');
        x.read(3, 0, 0, 1);
        due("back", x.back(0), 0);
        due("SEEN is in no IMAGE", x.count(0), 1);
        due("SHEETS are in no IMAGE", x.count(3), 3);
        due("THE TAPE is in no IMAGE", x.count(2), 1);
        due("torn() is in no IMAGE", x.torn(), 1);
    }

    private static void backHung() {
        DoorTown x = town("own0 0 0;own0 0 8;own0 0 4;own0 0 5;own0 0 1;" + NINE);
        x.keep(0);
        x.fill(8);
        x.keep(1);
        x.fill(0);
        x.fill(4);
        due("all five", x.back(0), 5);
        due("four", x.back(1), 4);
        DoorTown y = new DoorTown();
        y.keep(0);
        due("none of nobody", y.back(0), 0);
    }

    private static void backNone() {
        DoorTown x = town("own0 0 0;wall0 1;");
        due("IMAGE 0", x.back(0), STATE);
        due("IMAGE 1", x.back(1), STATE);
        x.keep(1);
        due("the other", x.back(0), STATE);
        due("this one", x.back(1), 1);
        due("nothing is changed", x.rule(2), 1);
        DoorTown y = town("own0 0 0;wall0 1;");
        y.keep(0);
        due("the other", y.back(1), STATE);
    }

    // ---- 40, 41

    private static void askSheet(Document d) {
        d.promise(40, "A SHEET is a new row of CELLS 0: 1.", SheetBoundaries::newRow);
        d.promise(40, "BAD: also n above 40;", SheetBoundaries::sheetBad);
        d.promise(40, "-14 (SIZE): n below 0.", SheetBoundaries::sheetBelow);
        d.promise(41, "CELL i of a SHEET becomes v (its lowest bits): 1.", SheetBoundaries::lays);
        d.promise(41, "BAD: k;", () -> {
            bounds("k", 0, 3, k -> new DoorTown().lay(k, 0, 0));
            bounds("k, CELL -1", 0, 3, k -> new DoorTown().lay(k, -1, 0));
        });
        d.promise(41, "-10 less the FAULT: NULL, INDEX.", SheetBoundaries::layFaults);
    }

    private static void newRow() {
        DoorTown x = town("own0 0;wall0 1;wall0 2;");
        x.sheet(0, 2, 40);
        for (int i = 0; i < 40; i++) {
            x.lay(0, i, 1);
        }
        due("over it", x.sheet(0, 2, 40), 1);
        due("CELLS 38 and 39 are 0", x.read(0, 2, 38, 1), 1);
        due("ONE 0 in WALL 0", x.one(0, 3), 0);
        due("shorter", x.sheet(0, 2, 3), 1);
        due("CELLS", x.count(3), 3);
        due("of another lane", x.sheet(0, 0, 5), 1);
        due("CELLS", x.count(3), 5);
        x.read(0, 0, 0, 1);
        due("it is not taken as it was", x.read(0, 2, 0, 1), 0);
        due("CAST", x.torn(), 3);
        due("another SHEET is not", x.lay(1, 0, 0), -11);
    }

    private static void sheetBad() {
        bounds("k", 0, 3, k -> new DoorTown().sheet(k, 0, 1));
        bounds("lane", 0, 2, lane -> new DoorTown().sheet(0, lane, 1));
        due("40", new DoorTown().sheet(0, 0, 40), 1);
        due("41", new DoorTown().sheet(0, 0, 41), BAD);
        due("far above", new DoorTown().sheet(0, 0, MAX), BAD);
        due("k, n below 0", new DoorTown().sheet(4, 0, -1), BAD);
        due("lane, n below 0", new DoorTown().sheet(0, -1, -1), BAD);
        DoorTown x = new DoorTown();
        x.sheet(0, 1, 7);
        x.sheet(0, 0, 41);
        due("nothing is changed", x.count(3), 7);
    }

    private static void sheetBelow() {
        for (int k = 0; k < 4; k++) {
            DoorTown x = new DoorTown();
            due("-1", x.sheet(k, 1, -1), -14);
            due("far below", x.sheet(k, 1, MIN), -14);
            due("nothing is there", x.lay(k, 0, 0), -11);
            due("0", x.sheet(k, 1, 0), 1);
            due("it is there", x.lay(k, 0, 0), -12);
        }
        DoorTown y = new DoorTown();
        y.sheet(0, 0, 7);
        due("-1", y.sheet(0, 0, -1), -14);
        due("nothing is changed", y.count(3), 7);
        due("torn() is of read() alone", y.torn(), 0);
    }

    private static void lays() {
        // read as a ONE, with WALL 0 behind it: his it is if the lowest bits are 1
        int[] values = {1, 257, -255, 65537, -65535, 0x7FFF0001, MIN + 1};
        boolean[][] isOne = {{true, true, true, true, true, true, true}, {true, false, false, true, true, true, true},
            {true, false, false, false, false, false, false}};
        for (int lane = 0; lane < 3; lane++) {
            for (int i = 0; i < values.length; i++) {
                DoorTown x = town("own0 0;own0 0;wall0 1;wall0 2;");
                x.sheet(2, lane, 3);
                due("laid", x.lay(2, 1, values[i]), 1);
                due("lane " + lane + " of " + values[i], x.read(2, lane, 1, 1), isOne[lane][i] ? 1 : -20);
                due("ONE 1 in WALL 0", x.one(1, 3), isOne[lane][i] ? 0 : NONE);
            }
        }
        DoorTown y = town(THREE);
        y.sheet(0, 0, 2);
        y.lay(0, 1, 1);
        y.lay(0, 1, 2);
        due("the latest", y.read(0, 0, 0, 1), 1);
        due("ONE 0 in WALL 2", y.one(0, 3), 2);
    }

    private static void layFaults() {
        for (int k = 0; k < 4; k++) {
            DoorTown x = new DoorTown();
            due("nothing", x.lay(k, 0, 0), -11);
            due("nothing, whatever the CELL", x.lay(k, -1, 0), -11);
            x.sheet(k, 2, 40);
            due("first", x.lay(k, 0, 0), 1);
            due("last", x.lay(k, 39, 0), 1);
            due("behind", x.lay(k, 40, 0), -12);
            due("ahead", x.lay(k, -1, 0), -12);
            due("far behind", x.lay(k, MAX, 0), -12);
            due("far ahead", x.lay(k, MIN, 0), -12);
            x.sheet(k, 2, 0);
            due("no CELL", x.lay(k, 0, 0), -12);
            x.sheet(k, 2, 1);
            due("one CELL", x.lay(k, 0, 0), 1);
            due("no second", x.lay(k, 1, 0), -12);
            due("torn() is of read() alone", x.torn(), 0);
        }
    }

    // ---- 42, 43

    private static DoorTown sheetOf(String text, int... cells) {
        DoorTown x = town(text);
        x.sheet(1, 1, cells.length);
        for (int i = 0; i < cells.length; i++) {
            x.lay(1, i, cells[i]);
        }
        return x;
    }

    private static void askRead(Document d) {
        d.promise(42, "n (0 to 20) times a ONE, a WALL are read of a SHEET taken as of a lane, two CELLS each from CELL f on,",
            SheetBoundaries::readTwos);
        d.promise(42, "one behind another as by hang(): how many came.", SheetBoundaries::readBehindAnother);
        d.promise(42, "BAD: k, lane, n;", SheetBoundaries::readBad);
        d.promise(42, "-20 less i (0 on): the i-th, whole, is refused by hang() (in whichever way):",
            SheetBoundaries::readRefused);
        d.promise(42, "then none came;", SheetBoundaries::readNoneCame);
        d.promise(42, "the first met.", SheetBoundaries::readFirstMet);
    }

    private static void readTwos() {
        DoorTown x = sheetOf(THREE, 9, 2, 0, 1, 1, 0, 2);
        due("from CELL 1 on", x.read(1, 1, 1, 3), 3);
        due("no FAULT", x.torn(), 0);
        for (int p = 0; p < 3; p++) {
            due("ONE " + p, x.one(p, 3), 2 - p);
        }
        for (int lane = 0; lane < 3; lane++) {
            DoorTown y = town(THREE);
            y.sheet(lane, lane, 2);
            due("lane " + lane, y.read(lane, lane, 0, 1), 1);
        }
        DoorTown z = sheetOf(FIVE + NINE, 0, 8, 1, 7, 2, 6, 3, 5, 4, 4);
        due("all five", z.read(1, 1, 0, 5), 5);
        due("the last", z.one(4, 3), 4);
    }

    private static void readBehindAnother() {
        DoorTown x = sheetOf(THREE, 0, 0, 0, 1);
        due("HUNG by the one ahead", x.read(1, 1, 0, 2), -21);
        DoorTown y = sheetOf(THREE, 0, 0, 1, 0);
        due("taken by the one ahead", y.read(1, 1, 0, 2), -21);
        DoorTown z = sheetOf(THREE, 0, 0, 1, 1);
        due("both came", z.read(1, 1, 0, 2), 2);
        due("two are HUNG", z.rule(2), 2);
        due("ROOMS", z.one(0, 4) + z.one(1, 4), 3 + 5);
        DoorTown v = sheetOf(THREE, 0, 0, 1, 1);
        due("none", v.read(1, 1, 0, 0), 0);
        due("one", v.read(1, 1, 2, 1), 1);
        due("the other", v.read(1, 1, 0, 1), 1);
    }

    private static void readBad() {
        bounds("k", 0, 3, k -> sheetOf(THREE, 0, 0).read(k, 1, 0, 1));
        bounds("lane", 0, 2, lane -> sheetOf(THREE, 0, 0).read(1, lane, 0, 1));
        bounds("n", 0, 20, n -> sheetOf(THREE, 0, 0).read(1, 1, 0, n));
        bounds("n of nothing", 0, 20, n -> new DoorTown().read(0, 0, 0, n));
        due("any f", sheetOf(THREE, 0, 0).read(1, 1, MIN, 1), 0);
        due("any f", sheetOf(THREE, 0, 0).read(1, 1, MAX, 20), 0);
        DoorTown x = sheetOf(THREE, 0, 0);
        x.read(1, 1, 0, 21);
        x.read(4, 1, 0, 1);
        x.read(1, 3, 0, 1);
        due("none came", x.rule(2), 0);
    }

    private static void readRefused() {
        int[][] each = {{3, 2}, {-1, 2}, {1, 3}, {1, -1}, {0, 2}, {1, 0}, {2, 2}, {32767, 2}, {1, -32768}};
        for (int[] act : each) {
            DoorTown x = sheetOf("own0 0 0;own0 0;own0 0 1;" + THREE.substring(21), act);
            x.fill(1);
            due("the first, ONE " + act[0] + " WALL " + act[1], x.read(1, 1, 0, 1), -20);
            DoorTown y = sheetOf("own0 0 0;own0 0;own0 0 1;own0 0;" + THREE.substring(21), 3, 1, act[0] == 3 ? 4 : act[0], act[1]);
            y.fill(1);
            due("the second, ONE " + act[0] + " WALL " + act[1], y.read(1, 1, 0, 2), -21);
        }
        DoorTown z = sheetOf(FIVE + NINE, 0, 0, 1, 1, 2, 2, 3, 3, 4, 4, 4, 5);
        due("the sixth", z.read(1, 1, 0, 6), -25);
    }

    private static void readNoneCame() {
        DoorTown x = sheetOf(FIVE + NINE, 0, 0, 1, 1, 2, 2, 3, 3, 4, 4, 4, 5);
        due("the sixth", x.read(1, 1, 0, 6), -25);
        due("none is HUNG", x.rule(2), 0);
        due("all are FREE", x.rule(4), 31);
        due("five", x.read(1, 1, 0, 5), 5);
        due("no more", x.read(1, 1, 0, 1), -20);
        due("five are HUNG", x.rule(2), 5);
    }

    private static void readFirstMet() {
        DoorTown x = sheetOf(THREE, 0, 0, 0, 0, 9);
        due("refused ahead of INDEX", x.read(1, 1, 0, 3), -21);
        due("no FAULT", x.torn(), 0);
        due("none came", x.rule(2), 0);
        due("whole, then a half", x.read(1, 1, 2, 2), 1);
        due("INDEX", x.torn(), 2);
        DoorTown y = sheetOf(THREE, 7, 7, 8, 8);
        due("the first of two that are refused", y.read(1, 1, 0, 2), -20);
    }

    private static void askReadFaults(Document d) {
        d.promise(42, "What the machine refuses: those that were whole ahead came", SheetBoundaries::wholeAheadCame);
        d.promise(42, "(its FAULT is asked by torn();", SheetBoundaries::askedByTorn);
        d.promise(42, "n 0: 0, no FAULT, whatever the SHEET is).", SheetBoundaries::readNought);
        d.promise(43, "The FAULT of the latest read() that answered 0 or more;", SheetBoundaries::tornOfTheLatest);
        d.promise(43, "0 (one that is refused leaves it).", SheetBoundaries::tornStays);
    }

    private static void wholeAheadCame() {
        DoorTown x = sheetOf(THREE, 0, 0, 1, 1, 2);
        due("two, and a half", x.read(1, 1, 0, 3), 2);
        due("INDEX", x.torn(), 2);
        due("two are HUNG", x.rule(2), 2);
        due("the half is not", x.one(2, 6), 0);
        DoorTown y = sheetOf(THREE, 0, 0, 1, 1);
        due("two of twenty", y.read(1, 1, 0, 20), 2);
        due("two are HUNG", y.rule(2), 2);
        DoorTown z = sheetOf(THREE, 0);
        due("a half alone", z.read(1, 1, 0, 1), 0);
        due("INDEX", z.torn(), 2);
        due("none is HUNG", z.rule(2), 0);
        due("ahead of the first CELL", z.read(1, 1, -1, 1), 0);
        due("INDEX", z.torn(), 2);
        DoorTown v = sheetOf(THREE, 0, 0, 1, 1);
        due("from MAX on, around", v.read(1, 1, MAX, 20), 0);
        due("from -2 on, into it", v.read(1, 1, -2, 3), 0);
        due("none is HUNG", v.rule(2), 0);
        DoorTown w = town(FIVE + NINE);
        w.sheet(3, 2, 40);
        w.lay(3, 39, 8);
        due("the last two CELLS", w.read(3, 2, 38, 2), 1);
        due("INDEX 40", w.torn(), 2);
        due("ONE 0 in WALL 8", w.one(0, 3), 8);
    }

    private static void askedByTorn() {
        DoorTown x = sheetOf(THREE, 0, 0);
        due("nothing", x.read(0, 0, 0, 1), 0);
        due("NULL", x.torn(), 1);
        due("nothing, whatever the lane and the CELL", x.read(0, 2, -9, 1), 0);
        due("NULL", x.torn(), 1);
        due("behind", x.read(1, 1, 2, 1), 0);
        due("INDEX", x.torn(), 2);
        due("another lane", x.read(1, 2, 0, 1), 0);
        due("CAST", x.torn(), 3);
        due("another lane, whatever the CELL", x.read(1, 0, 99, 1), 0);
        due("CAST", x.torn(), 3);
        x.sheet(2, 0, 0);
        due("no CELL", x.read(2, 0, 0, 1), 0);
        due("INDEX", x.torn(), 2);
        due("no CELL, another lane", x.read(2, 1, 0, 1), 0);
        due("CAST", x.torn(), 3);
    }

    private static void readNought() {
        DoorTown x = sheetOf(THREE, 0, 0);
        int[][] each = {{0, 0, 0}, {1, 1, 0}, {1, 1, 99}, {1, 1, -1}, {1, 2, 0}, {3, 2, MIN}};
        for (int[] as : each) {
            x.read(0, 0, 0, 1);
            due("a FAULT ahead", x.torn(), 1);
            due("n 0", x.read(as[0], as[1], as[2], 0), 0);
            due("no FAULT", x.torn(), 0);
        }
        due("none is HUNG", x.rule(2), 0);
    }

    private static void tornOfTheLatest() {
        DoorTown x = sheetOf(THREE, 0, 0, 1);
        due("none yet", x.torn(), 0);
        x.read(0, 1, 0, 1);
        due("NULL", x.torn(), 1);
        x.read(1, 0, 0, 1);
        due("CAST", x.torn(), 3);
        due("one came, then INDEX", x.read(1, 1, 0, 2), 1);
        due("INDEX", x.torn(), 2);
        x.lay(1, 0, 1);
        x.lay(1, 1, 1);
        due("one came", x.read(1, 1, 0, 1), 1);
        due("no FAULT", x.torn(), 0);
        x.read(0, 1, 0, 1);
        tell(x, "?");
        due("of read() alone", x.torn(), 1);
        tell(x, "");
        due("of read() alone", x.torn(), 1);
    }

    private static void tornStays() {
        DoorTown x = sheetOf(THREE, 0, 0, 0, 0);
        x.read(1, 2, 0, 1);
        due("CAST", x.torn(), 3);
        due("refused by hang()", x.read(1, 1, 0, 2), -21);
        due("it stays", x.torn(), 3);
        due("BAD", x.read(1, 1, 0, 21), BAD);
        due("BAD", x.read(4, 1, 0, 0), BAD);
        due("BAD", x.read(1, 3, 0, 0), BAD);
        due("it stays", x.torn(), 3);
        x.lay(0, 0, 0);
        x.lay(1, 9, 0);
        x.sheet(0, 0, -1);
        due("of read() alone", x.torn(), 3);
        DoorTown y = sheetOf(THREE, 9, 9);
        y.read(1, 1, 0, 1);
        due("refused, none yet", y.torn(), 0);
    }

    // ---- 44

    private static void askCount(Document d) {
        d.promise(44, "How many: 0 SEEN,", SheetBoundaries::countSeen);
        d.promise(44, "1 IMAGES,", SheetBoundaries::countImages);
        d.promise(44, "2 bytes on THE TAPE,", SheetBoundaries::countBytes);
        d.promise(44, "3 CELLS of SHEET 0 (NONE: nothing),", SheetBoundaries::countCells);
        d.promise(44, "4 WORTH of all ROOMS,", SheetBoundaries::countWorth);
        d.promise(44, "5 DOORS that are GONE.", SheetBoundaries::countGone);
        d.promise(44, "BAD.", () -> {
            bounds("what", 0, 5, what -> new DoorTown().count(what));
            bounds("what of a town", 0, 5, what -> sheetOf(THREE, 1).count(what));
        });
    }

    private static void countSeen() {
        DoorTown x = town(THREE);
        for (int n = 0; n <= 6; n++) {
            due("SEEN", x.count(0), n);
            x.see(0, 0, true);
        }
        due("no seventh", x.count(0), 6);
    }

    private static void countImages() {
        DoorTown x = new DoorTown();
        due("none", x.count(1), 0);
        x.keep(1);
        due("one", x.count(1), 1);
        x.keep(1);
        due("over it", x.count(1), 1);
        x.keep(0);
        due("both", x.count(1), 2);
        DoorTown y = new DoorTown();
        y.keep(0);
        due("the first alone", y.count(1), 1);
    }

    private static void countBytes() {
        DoorTown x = new DoorTown();
        for (int n = 0; n <= 160; n++) {
            due("bytes", x.count(2), n);
            x.feed(' ');
        }
        due("no more", x.count(2), 160);
        x.text();
        due("none", x.count(2), 0);
    }

    private static void countCells() {
        DoorTown x = new DoorTown();
        due("nothing", x.count(3), NONE);
        x.sheet(1, 0, 9);
        x.sheet(3, 0, 9);
        due("nothing on SHEET 0", x.count(3), NONE);
        x.sheet(0, 0, 0);
        due("no CELL is not nothing", x.count(3), 0);
        x.sheet(0, 1, 40);
        due("forty", x.count(3), 40);
        tell(x, "");
        due("it stays", x.count(3), 40);
    }

    private static void countWorth() {
        DoorTown x = new DoorTown();
        due("none", x.count(4), 0);
        for (int r = 0; r < 8; r++) {
            x.price(r, 99);
            due("so many", x.count(4), 99 * (r + 1));
        }
        x.price(0, 0);
        due("but ROOM 0", x.count(4), 7 * 99);
    }

    private static void countGone() {
        DoorTown x = town("own0 0 0;own0 0 8;own0 0 4;own0 0 5;own0 0 1;" + NINE);
        int[] walls = {0, 8, 4, 5, 1};
        for (int n = 0; n < 5; n++) {
            due("GONE", x.count(5), n);
            x.fill(walls[n]);
        }
        due("all five", x.count(5), 5);
        x.fill(0);
        due("no more", x.count(5), 5);
    }
}
