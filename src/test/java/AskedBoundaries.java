/** The sentences of promises 1 to 10 (the text, what there is), each with a test of its own. */
final class AskedBoundaries extends Asking {
    private static final String FIVE = TermsBoundaries.FIVE, NINE = TermsBoundaries.NINE;
    /** ONE 0 is HUNG in the last WALL, 1 in the first, 2 is FREE; filling 1's makes it GONE. */
    private static final String THREE = "house3 7 8;own0 0 0;gaol1 3;" + NINE.substring(8) + "wall6 7;room6 99;room1 1;";

    private AskedBoundaries() {
    }

    static void ask(Document d) {
        askTape(d);
        askText(d);
        askRule(d);
        askOne(d);
        askWall(d);
    }

    // ---- 1 to 5

    private static void askTape(Document d) {
        d.promise(1, "Nobody, no WALLS;", AskedBoundaries::nobody);
        d.promise(1, "SHEETS have nothing.", AskedBoundaries::sheetsOfNothing);
        d.promise(2, "A byte (0 to 127) comes behind THE TAPE: how many it has. BAD;", AskedBoundaries::feedByte);
        d.promise(2, "FULL: more than 160.", AskedBoundaries::feedFull);
        d.promise(3, "THE TAPE keeps its first n bytes: how many it had.", AskedBoundaries::endKeeps);
        d.promise(3, "BAD (n above that, too).", AskedBoundaries::endAbove);
    }

    private static void nobody() {
        DoorTown other = town("own0 0;wall0 1;room0 1;plan0 0;");
        DoorTown x = new DoorTown();
        due("PEOPLE", x.rule(0), 0);
        due("WALLS", x.rule(1), 0);
        due("HUNG", x.rule(2), 0);
        due("ACTS", x.rule(3), 0);
        due("FREE", x.rule(4), 0);
        due("WORTH", x.count(4), 0);
        due("SEEN", x.count(0), 0);
        due("IMAGES", x.count(1), 0);
        due("bytes", x.count(2), 0);
        due("FAULT", x.fault(), 0);
        due("torn", x.torn(), 0);
        due("another object has its own", other.rule(0), 1);
    }

    private static void sheetsOfNothing() {
        DoorTown other = new DoorTown();
        other.sheet(0, 0, 4);
        DoorTown x = new DoorTown();
        due("SHEET 0", x.count(3), NONE);
        for (int k = 0; k < 4; k++) {
            due("laid on SHEET " + k, x.lay(k, 0, 0), -11);
            due("read of SHEET " + k, x.read(k, 0, 0, 1), 0);
            due("NULL", x.torn(), 1);
        }
    }

    private static void feedByte() {
        DoorTown x = new DoorTown();
        due("0", x.feed(0), 1);
        due("127", x.feed(127), 2);
        due("-1", x.feed(-1), BAD);
        due("128", x.feed(128), BAD);
        due("256 is no 0", x.feed(256), BAD);
        due("far", x.feed(MIN), BAD);
        due("far", x.feed(MAX), BAD);
        due("two are there", x.count(2), 2);
        due("behind them", x.feed(';'), 3);
        due("the first is read first", x.text(), -10);
    }

    private static void feedFull() {
        DoorTown x = new DoorTown();
        for (int n = 1; n <= 160; n++) {
            due("the n-th", x.feed(' '), n);
        }
        due("the 161st", x.feed(' '), FULL);
        due("again", x.feed(';'), FULL);
        due("160 are there", x.count(2), 160);
        x.end(159);
        due("one more may come", x.feed(' '), 160);
        due("blanks alone", x.text(), 0);
        due("it is empty then", x.feed(' '), 1);
    }

    private static void endKeeps() {
        DoorTown x = new DoorTown();
        due("of none", x.end(0), 0);
        for (char c : "own0 0;own0 0;".toCharArray()) {
            x.feed(c);
        }
        due("all", x.end(14), 14);
        due("all are there", x.count(2), 14);
        due("the first seven", x.end(7), 14);
        due("seven are there", x.count(2), 7);
        due("the next comes behind them", x.feed(' '), 8);
        due("the first line", x.text(), 1);
        x.feed('?');
        due("none", x.end(0), 1);
        due("none are there", x.text(), 0);
    }

    private static void endAbove() {
        DoorTown x = new DoorTown();
        due("above none", x.end(1), BAD);
        due("below", x.end(-1), BAD);
        due("still none", x.count(2), 0);
        bounds("n of two", 0, 2, n -> twoBytes().end(n));
        DoorTown y = new DoorTown();
        for (int i = 0; i < 160; i++) {
            y.feed(' ');
        }
        due("above 160", y.end(161), BAD);
        due("160", y.end(160), 160);
    }

    private static DoorTown twoBytes() {
        DoorTown x = new DoorTown();
        x.feed(' ');
        x.feed(' ');
        return x;
    }

    private static void askText(Document d) {
        d.promise(4, "THE TAPE (empty then, by a FAULT, too)", AskedBoundaries::emptyThen);
        d.promise(4, "tells all: how many lines;", AskedBoundaries::howManyLines);
        d.promise(4, "-10 less the place of its FAULT:", AskedBoundaries::lessThePlace);
        d.promise(4, "that which was told stays.", AskedBoundaries::toldStays);
        d.promise(5, "The FAULT of the latest text();", AskedBoundaries::faultOfTheLatest);
        d.promise(5, "0.", AskedBoundaries::noFault);
    }

    private static void emptyThen() {
        DoorTown x = new DoorTown();
        due("taken", tell(x, "own0 0;"), 1);
        due("empty", x.count(2), 0);
        due("refused", tell(x, "own0 0"), -16);
        due("empty by a FAULT", x.count(2), 0);
        due("from the first again", x.feed(' '), 1);
        due("nothing is told", x.text(), 0);
        due("so there is nobody", x.rule(0), 0);
    }

    private static void howManyLines() {
        due("none", tell(new DoorTown(), ""), 0);
        due("one", tell(new DoorTown(), "plan;"), 1);
        due("of each", tell(new DoorTown(), "own0 0;house0 0;stranger0 0;gaol0 0;wall0 1;room0 0;plan;"), 7);
        due("most", tell(new DoorTown(), FIVE + NINE + "plan;room0 1;room1 1;room2 1;room3 1;room4 1;"), 20);
    }

    private static void lessThePlace() {
        due("place 0", tell(new DoorTown(), "?"), -10);
        due("place 1", tell(new DoorTown(), " ?"), -11);
        due("place 159", tell(new DoorTown(), " ".repeat(159) + "?"), -169);
        due("the end, 3", tell(new DoorTown(), "own"), -13);
        due("the end, 160", tell(new DoorTown(), " ".repeat(157) + "own"), -170);
    }

    private static void toldStays() {
        DoorTown x = town("own1 5 0;wall0 1;room3 7;plan0 0;");
        String[] faulty = {"?", "own", "own9", "plan;plan;", FIVE + "own", "wall0 1;own0 0;gaol0 0;room0 1;plan0 1;"};
        for (String text : faulty) {
            due("refused", tell(x, text) < 0 ? 1 : 0, 1);
            due("ONES", x.rule(0), 1);
            due("WALLS", x.rule(1), 1);
            due("HUNG", x.rule(2), 1);
            due("ACTS", x.rule(3), 1);
            due("HOME", x.one(0, 2), 5);
            due("WORTH", x.count(4), 7);
        }
    }

    private static void faultOfTheLatest() {
        DoorTown x = new DoorTown();
        String[] faulty = {"?", "own", "own9", "plan;plan;", FIVE + "own", "plan0 0;"};
        for (int fault = 1; fault <= 6; fault++) {
            tell(x, faulty[fault - 1]);
            due("FAULT", x.fault(), fault);
        }
        x.feed('?');
        x.end(0);
        x.feed('?');
        due("of text() alone", x.fault(), 6);
        x.text();
        due("of the latest", x.fault(), 1);
    }

    private static void noFault() {
        DoorTown x = new DoorTown();
        due("no text() yet", x.fault(), 0);
        tell(x, "own");
        due("refused", x.fault(), 2);
        tell(x, "own0 0;");
        due("taken", x.fault(), 0);
        tell(x, "own");
        tell(x, "");
        due("taken, of nothing", x.fault(), 0);
    }

    // ---- 6

    private static void askRule(Document d) {
        d.promise(6, "0 PEOPLE,", () -> rule(0, 0, 5));
        d.promise(6, "1 WALLS,", () -> rule(1, 0, 9));
        d.promise(6, "2 how many DOORS are HUNG,", AskedBoundaries::ruleHung);
        d.promise(6, "3 ACTS of THE PLAN,", () -> rule(3, 0, 6));
        d.promise(6, "4 whose DOOR is FREE (bits),", AskedBoundaries::ruleFree);
        d.promise(6, "5 ROOMS that nobody REACHES (bits).", AskedBoundaries::ruleNobody);
        d.promise(6, "BAD.", () -> {
            bounds("what", 0, 5, what -> new DoorTown().rule(what));
            bounds("what of a town", 0, 5, what -> town(THREE).rule(what));
        });
    }

    private static void rule(int what, int least, int most) {
        due("least", new DoorTown().rule(what), least);
        due("most", town(FIVE + NINE + TermsBoundaries.SIX).rule(what), most);
    }

    private static void ruleHung() {
        due("none", new DoorTown().rule(2), 0);
        DoorTown x = town("own0 0 0;own0 0 8;own0 0 4;own0 0 5;own0 0 1;" + NINE);
        for (int hung = 5; hung >= 0; hung--) {
            due("HUNG", x.rule(2), hung);
            x.fill(new int[] {0, 0, 8, 4, 5, 1}[hung]);
        }
    }

    private static void ruleFree() {
        due("nobody's", new DoorTown().rule(4), 0);
        DoorTown x = town(FIVE + NINE);
        due("all", x.rule(4), 31);
        x.hang(4, 8);
        due("not what is HUNG", x.rule(4), 15);
        x.hang(0, 0);
        due("not what is HUNG", x.rule(4), 14);
        x.fill(8);
        due("not what is GONE", x.rule(4), 14);
    }

    private static void ruleNobody() {
        due("all", new DoorTown().rule(5), 255);
        DoorTown x = town("own0 0 0;own0 7 1;own0 1;own0 2;own0 3;wall0 4;wall7 5;");
        due("one", x.rule(5), 64);
        x.fill(0);
        due("two", x.rule(5), 64 + 16);
        x.build(3, 6);
        x.hang(4, 2);
        x.alter(2, 2, 4);
        x.alter(3, 2, 1);
        due("another", x.rule(5), 4);
        DoorTown y = town("house0 0 0;house0 4 1;house0 5 2;own1 6;own1 7;wall0 1;wall1 2;wall2 3;");
        due("none", y.rule(5), 0);
    }

    // ---- 7

    private static void askOne(Document d) {
        d.promise(7, "Of a ONE: 0 KIND, 1 HOUSE, 2 HOME,", AskedBoundaries::oneAsTold);
        d.promise(7, "3 the WALL in which his DOOR is HUNG (NONE: it is not),", AskedBoundaries::oneWall);
        d.promise(7, "4 ROOMS that he REACHES (bits),", AskedBoundaries::oneReaches);
        d.promise(7, "5 GAIN,", AskedBoundaries::oneGain);
        d.promise(7, "6 whether his DOOR is FREE, HUNG, GONE (0, 1, 2).", AskedBoundaries::oneDoor);
        d.promise(7, "BAD.", AskedBoundaries::oneBad);
    }

    private static void oneAsTold() {
        DoorTown x = town("own0 0;gaol3 7;");
        int[][] want = {{0, 0, 0}, {3, 3, 7}};
        for (int p = 0; p < 2; p++) {
            for (int what = 0; what < 3; what++) {
                due("one(" + p + ", " + what + ")", x.one(p, what), want[p][what]);
            }
        }
    }

    private static void oneWall() {
        DoorTown x = town(THREE);
        due("the last WALL", x.one(0, 3), 8);
        due("the first WALL", x.one(1, 3), 0);
        due("FREE", x.one(2, 3), NONE);
        x.fill(0);
        due("GONE", x.one(1, 3), NONE);
        due("another's", x.one(0, 3), 8);
    }

    private static void oneReaches() {
        DoorTown x = town(THREE);
        due("two ROOMS", x.one(0, 4), 128 + 64);
        due("two ROOMS", x.one(1, 4), 3);
        due("HOME alone", x.one(2, 4), 8);
        DoorTown y = town("house0 0 0;house0 0 1;house0 0 2;house0 0 3;house0 7 4;wall0 1;wall0 2;wall0 3;wall0 4;wall0 5;");
        due("most", y.one(0, 4), 63);
        due("HOME 7 alone", y.one(4, 4), 128);
    }

    private static void oneGain() {
        DoorTown x = town(THREE);
        due("the other ROOM", x.one(0, 5), 99);
        due("the other ROOM", x.one(1, 5), 1);
        due("none", x.one(2, 5), 0);
        x.price(7, 50);
        x.price(3, 50);
        due("not his HOME", x.one(0, 5), 99);
        due("not his HOME", x.one(2, 5), 0);
        x.price(6, 0);
        due("no WORTH", x.one(0, 5), 0);
    }

    private static void oneDoor() {
        DoorTown x = town(THREE);
        due("FREE", x.one(2, 6), 0);
        due("HUNG in 8", x.one(0, 6), 1);
        due("HUNG in 0", x.one(1, 6), 1);
        x.fill(0);
        due("GONE", x.one(1, 6), 2);
        x.hang(2, 0);
        due("HUNG by hang()", x.one(2, 6), 1);
        due("GONE stays GONE", x.one(1, 6), 2);
    }

    private static void oneBad() {
        bounds("ONE", 0, 2, p -> town(THREE).one(p, 0));
        bounds("what", 0, 6, what -> town(THREE).one(2, what));
        never("of nobody", p -> new DoorTown().one(p, 0));
        bounds("ONE of five", 0, 4, p -> town(FIVE).one(p, 4));
        DoorTown x = town(FIVE);
        tell(x, "own0 0;");
        due("a ONE that was", x.one(1, 0), BAD);
    }

    // ---- 8 to 10

    private static void askWall(Document d) {
        d.promise(8, "Of a WALL: 0 A, 1 B,", AskedBoundaries::wallSides);
        d.promise(8, "2 whose DOOR is HUNG in it (NONE: there is none),", AskedBoundaries::wallOwner);
        d.promise(8, "3 whom that LETS (bits).", AskedBoundaries::wallLets);
        d.promise(8, "BAD.", AskedBoundaries::wallBad);
        d.promise(9, "Of a ROOM: 0 WORTH,", AskedBoundaries::roomWorth);
        d.promise(9, "1 who REACHES it (bits).", AskedBoundaries::roomWho);
        d.promise(9, "BAD.", () -> {
            bounds("ROOM", 0, 7, r -> new DoorTown().room(r, 0));
            bounds("ROOM, who", 0, 7, r -> new DoorTown().room(r, 1));
            bounds("what", 0, 1, what -> new DoorTown().room(0, what));
        });
        d.promise(10, "Of an ACT of THE PLAN: 0 the ONE, 1 the WALL.", AskedBoundaries::actAsTold);
        d.promise(10, "BAD.", AskedBoundaries::actBad);
    }

    private static void wallSides() {
        DoorTown x = town("wall0 7;wall7 0;wall3 4;");
        int[][] want = {{0, 7}, {7, 0}, {3, 4}};
        for (int w = 0; w < 3; w++) {
            due("A", x.wall(w, 0), want[w][0]);
            due("B", x.wall(w, 1), want[w][1]);
        }
        DoorTown y = new DoorTown();
        y.build(7, 0);
        due("A of a WALL that is built", y.wall(0, 0), 7);
        due("B of a WALL that is built", y.wall(0, 1), 0);
    }

    private static void wallOwner() {
        DoorTown x = town(THREE);
        due("ONE 0's", x.wall(8, 2), 0);
        due("ONE 1's", x.wall(0, 2), 1);
        due("none", x.wall(1, 2), NONE);
        x.fill(8);
        due("none that is GONE", x.wall(8, 2), NONE);
        DoorTown y = town(FIVE + "wall0 1;");
        y.hang(4, 0);
        due("ONE 4's", y.wall(0, 2), 4);
    }

    private static void wallLets() {
        DoorTown x = town("house0 0 0;house0 1;house0 2;house0 3;house0 4;wall0 1;wall0 1;");
        due("all", x.wall(0, 3), 31);
        due("nobody's lets nobody", x.wall(1, 3), 0);
        x.alter(0, 0, 2);
        due("no stranger is there", x.wall(0, 3), 0);
        x.fill(0);
        due("GONE lets nobody", x.wall(0, 3), 0);
        DoorTown y = town("gaol0 0 0;own0 0;own0 0;own0 0;own0 0;wall0 1;");
        due("all but one", y.wall(0, 3), 30);
    }

    private static void wallBad() {
        bounds("WALL", 0, 8, w -> town(THREE).wall(w, 0));
        bounds("WALL of one", 0, 0, w -> town("wall0 1;").wall(w, 2));
        bounds("what", 0, 3, what -> town(THREE).wall(8, what));
        never("no WALL", w -> town(FIVE).wall(w, 0));
    }

    private static void roomWorth() {
        DoorTown x = town("room0 99;room7 98;");
        due("ROOM 0", x.room(0, 0), 99);
        due("ROOM 7", x.room(7, 0), 98);
        due("ROOM 1", x.room(1, 0), 0);
        due("though nobody is there", x.rule(0), 0);
    }

    private static void roomWho() {
        due("nobody", new DoorTown().room(0, 1), 0);
        DoorTown x = town("house0 0 0;house0 0;house0 0;house0 0;house0 7;wall0 6;");
        due("at HOME", x.room(0, 1), 15);
        due("by a DOOR", x.room(6, 1), 15);
        due("the last at HOME", x.room(7, 1), 16);
        due("nobody", x.room(1, 1), 0);
        x.alter(4, 2, 6);
        due("all", x.room(6, 1), 31);
    }

    private static void actAsTold() {
        DoorTown x = town(FIVE + NINE + "plan4 0 0 8;");
        due("ONE of the first", x.act(0, 0), 4);
        due("WALL of the first", x.act(0, 1), 0);
        due("ONE of the second", x.act(1, 0), 0);
        due("WALL of the second", x.act(1, 1), 8);
    }

    private static void actBad() {
        bounds("ACT of six", 0, 5, i -> town(FIVE + NINE + TermsBoundaries.SIX).act(i, 0));
        bounds("ACT of one", 0, 0, i -> town("own0 0;wall0 1;plan0 0;").act(i, 1));
        bounds("what", 0, 1, what -> town("own0 0;wall0 1;plan0 0;").act(0, what));
        never("of no PLAN", i -> town("own0 0;wall0 1;plan;").act(i, 0));
        DoorTown x = town(FIVE + NINE + TermsBoundaries.SIX);
        x.cut(5);
        due("what is cut", x.act(5, 0), BAD);
    }
}
