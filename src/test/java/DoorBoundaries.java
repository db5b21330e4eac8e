/** The sentences of promises 11 to 22 (what is changed, doors, ways), each with a test of its own. */
final class DoorBoundaries extends Asking {
    private static final String FIVE = TermsBoundaries.FIVE, NINE = TermsBoundaries.NINE, SIX = TermsBoundaries.SIX;
    /** All of one HOUSE; a row 0-1-2-3-4-5 of five DOORS. */
    private static final String ROW = "house0 0 0;house0 5 1;house0 0 2;house0 0 3;house0 7 4;"
        + "wall0 1;wall1 2;wall2 3;wall3 4;wall4 5;";
    /** ONE 0 is HUNG, 1 FREE, 2 GONE once WALL 1 is filled. */
    private static final String THREE = "own0 0 0;own0 0;own0 0 1;wall0 1;wall0 2;wall0 3;";

    private DoorBoundaries() {
    }

    static void ask(Document d) {
        askChanges(d);
        askPlan(d);
        askHanging(d);
        askSteps(d);
        askRuns(d);
    }

    private static DoorTown three() {
        DoorTown x = town(THREE);
        x.fill(1);
        return x;
    }

    // ---- 11 to 13

    private static void askChanges(Document d) {
        d.promise(11, "KIND, HOUSE, HOME (what 0 to 2) of a ONE becomes v: what it was.", DoorBoundaries::alters);
        d.promise(11, "BAD.", DoorBoundaries::alterBad);
        d.promise(12, "WORTH of a ROOM becomes v: what it was.", DoorBoundaries::prices);
        d.promise(12, "BAD.", DoorBoundaries::priceBad);
        d.promise(13, "A WALL more: how many there are.", DoorBoundaries::builds);
        d.promise(13, "BAD (also alike);", DoorBoundaries::buildBad);
        d.promise(13, "FULL.", DoorBoundaries::buildFull);
    }

    private static void alters() {
        DoorTown x = town("own0 0;house1 5 0;own2 5;wall5 6;");
        int[] most = {3, 3, 7};
        int[] was = {1, 1, 5};
        for (int what = 0; what < 3; what++) {
            due("to its most", x.alter(1, what, most[what]), was[what]);
            due("it is", x.one(1, what), most[what]);
            due("alike", x.alter(1, what, most[what]), most[what]);
            due("to its least", x.alter(1, what, 0), most[what]);
            due("it is", x.one(1, what), 0);
            due("another's is not", x.one(2, what), new int[] {0, 2, 5}[what]);
        }
        due("the DOOR stays where it is HUNG", x.one(1, 3), 0);
        due("an own one now", x.wall(0, 3), 2);
        due("from the new HOME", x.one(1, 4), 1);
    }

    private static void alterBad() {
        bounds("ONE", 0, 2, p -> three().alter(p, 0, 0));
        bounds("what", 0, 2, what -> three().alter(2, what, 1));
        bounds("KIND", 0, 3, v -> three().alter(0, 0, v));
        bounds("HOUSE", 0, 3, v -> three().alter(0, 1, v));
        bounds("HOME", 0, 7, v -> three().alter(0, 2, v));
        never("nobody's", p -> new DoorTown().alter(p, 0, 0));
        DoorTown x = three();
        x.alter(0, 0, 4);
        x.alter(0, 1, 4);
        x.alter(0, 2, 8);
        due("nothing is changed", x.one(0, 0) + x.one(0, 1) + x.one(0, 2), 0);
    }

    private static void prices() {
        DoorTown x = town("room0 99;");
        due("what it was", x.price(0, 0), 99);
        due("it is", x.room(0, 0), 0);
        due("what was not told", x.price(7, 99), 0);
        due("it is", x.room(7, 0), 99);
        due("alike", x.price(7, 99), 99);
        due("another's is not", x.room(6, 0), 0);
    }

    private static void priceBad() {
        bounds("ROOM", 0, 7, r -> new DoorTown().price(r, 5));
        bounds("WORTH", 0, 99, v -> new DoorTown().price(7, v));
        DoorTown x = new DoorTown();
        x.price(0, 50);
        x.price(0, 100);
        x.price(0, -1);
        x.price(8, 50);
        due("nothing is changed", x.count(4), 50);
    }

    private static void builds() {
        DoorTown x = town("own0 0;wall0 1;");
        due("the second", x.build(7, 0), 2);
        due("A", x.wall(1, 0), 7);
        due("B", x.wall(1, 1), 0);
        due("no DOOR is in it", x.wall(1, 2), NONE);
        due("between the same ROOMS", x.build(7, 0), 3);
        due("one may be HUNG in it", x.hang(0, 2), 128 + 1);
        DoorTown y = new DoorTown();
        due("the first of nobody's", y.build(0, 1), 1);
        due("no DOOR is in it", y.wall(0, 2), NONE);
        due("whom it LETS", y.wall(0, 3), 0);
        due("nothing to fill", y.fill(0), STATE);
    }

    private static void buildBad() {
        for (int r = 0; r < 8; r++) {
            due("alike", new DoorTown().build(r, r), BAD);
        }
        bounds("A", 0, 7, a -> new DoorTown().build(a, 3));
        bounds("B", 0, 7, b -> new DoorTown().build(3, b));
        due("alike and none such", new DoorTown().build(8, 8), BAD);
        DoorTown x = new DoorTown();
        x.build(1, 1);
        x.build(8, 0);
        due("nothing is built", x.rule(1), 0);
    }

    private static void buildFull() {
        DoorTown x = town(NINE.substring(8));
        due("the ninth", x.build(2, 3), 9);
        due("the tenth", x.build(2, 3), FULL);
        due("nine", x.rule(1), 9);
        due("the ninth stays", x.wall(8, 0), 2);
        due("no tenth", x.wall(9, 0), BAD);
    }

    // ---- 14, 15

    private static void askPlan(Document d) {
        d.promise(14, "An ACT more in THE PLAN: how many it has.", DoorBoundaries::plans);
        d.promise(14, "BAD;", DoorBoundaries::planBad);
        d.promise(14, "FULL.", DoorBoundaries::planFull);
        d.promise(15, "THE PLAN has its first n ACTS alone: how many it had.", DoorBoundaries::cuts);
        d.promise(15, "BAD (n above that, too).", DoorBoundaries::cutBad);
    }

    private static void plans() {
        DoorTown x = three();
        due("the first", x.plan(1, 2), 1);
        due("alike", x.plan(1, 2), 2);
        due("HUNG already", x.plan(0, 2), 3);
        due("GONE", x.plan(2, 2), 4);
        due("where one is", x.plan(1, 0), 5);
        due("the ONE of the third", x.act(2, 0), 0);
        due("the WALL of the fifth", x.act(4, 1), 0);
        due("nobody HANGS yet", x.one(1, 6), 0);
    }

    private static void planBad() {
        bounds("ONE", 0, 2, p -> three().plan(p, 2));
        bounds("WALL", 0, 2, w -> three().plan(1, w));
        never("no ONE", p -> town("wall0 1;").plan(p, 0));
        never("no WALL", w -> town("own0 0;").plan(0, w));
        DoorTown x = three();
        x.plan(3, 0);
        x.plan(0, 3);
        due("nothing is planned", x.rule(3), 0);
    }

    private static void planFull() {
        DoorTown x = town(FIVE + NINE + SIX);
        due("the seventh", x.plan(4, 8), FULL);
        due("six", x.rule(3), 6);
        due("the sixth stays", x.act(5, 0), 0);
        x.cut(5);
        due("the sixth again", x.plan(4, 8), 6);
        due("the seventh again", x.plan(4, 8), FULL);
    }

    private static void cuts() {
        DoorTown x = town(FIVE + NINE + "plan0 8 1 7 2 6 3 5 4 4 0 3;");
        due("all", x.cut(6), 6);
        due("all stay", x.act(5, 1), 3);
        due("the first two", x.cut(2), 6);
        due("two stay", x.rule(3), 2);
        due("the second", x.act(1, 1), 7);
        due("no third", x.act(2, 1), BAD);
        due("the next is the third", x.plan(4, 0), 3);
        due("it is", x.act(2, 0), 4);
        due("none", x.cut(0), 3);
        due("none of none", x.cut(0), 0);
        due("none came", x.runs(0), 0);
    }

    private static void cutBad() {
        bounds("n of six", 0, 6, n -> town(FIVE + NINE + SIX).cut(n));
        bounds("n of none", 0, 0, n -> new DoorTown().cut(n));
        bounds("n of one", 0, 1, n -> town("own0 0;wall0 1;plan0 0;").cut(n));
        DoorTown x = town("own0 0;wall0 1;plan0 0;");
        x.cut(2);
        x.cut(-1);
        due("nothing is cut", x.rule(3), 1);
    }

    // ---- 16, 17

    private static void askHanging(Document d) {
        d.promise(16, "A ONE HANGS his DOOR in a WALL: ROOMS that he REACHES then (bits).", DoorBoundaries::hangs);
        d.promise(16, "BAD;", DoorBoundaries::hangBad);
        d.promise(16, "STATE: it is not FREE,", DoorBoundaries::hangNotFree);
        d.promise(16, "there is one.", DoorBoundaries::hangThereIsOne);
        d.promise(17, "TO FILL a WALL: whose DOOR it was.", DoorBoundaries::fills);
        d.promise(17, "BAD;", DoorBoundaries::fillBad);
        d.promise(17, "STATE: there is none.", DoorBoundaries::fillNone);
    }

    private static void hangs() {
        DoorTown x = town("own0 0;gaol0 0;stranger1 7;house1 7;own2 3;" + "wall0 1;wall7 0;wall0 7;wall7 6;wall5 6;");
        due("own, from A to B", x.hang(0, 0), 3);
        due("gaol lets him not, the others", x.hang(1, 1), 1);
        due("stranger lets him not", x.hang(2, 2), 128 + 1);
        due("house", x.hang(3, 3), 128 + 64 + 1);
        due("where he is not", x.hang(4, 4), 8);
        due("all are HUNG", x.rule(2), 5);
        due("the ONE before", x.one(2, 4), 128 + 64 + 1);
    }

    private static void hangBad() {
        bounds("ONE", 0, 2, p -> three().hang(p, 2));
        bounds("WALL", 0, 2, w -> three().hang(1, w));
        never("no ONE", p -> town("wall0 1;").hang(p, 0));
        never("no WALL", w -> town("own0 0;").hang(0, w));
        DoorTown x = three();
        x.hang(1, 3);
        x.hang(3, 1);
        x.hang(1, -1);
        due("nothing is HUNG", x.rule(2), 1);
    }

    private static void hangNotFree() {
        DoorTown x = three();
        due("HUNG elsewhere", x.hang(0, 2), STATE);
        due("HUNG there", x.hang(0, 0), STATE);
        due("GONE, to where it was", x.hang(2, 1), STATE);
        due("GONE, to elsewhere", x.hang(2, 2), STATE);
        due("FREE", x.hang(1, 2), 9);
        due("FREE no more", x.hang(1, 1), STATE);
        due("two are HUNG", x.rule(2), 2);
        due("where it was", x.one(0, 3), 0);
    }

    private static void hangThereIsOne() {
        DoorTown x = three();
        due("another's", x.hang(1, 0), STATE);
        due("it stays FREE", x.one(1, 6), 0);
        due("the other stays", x.wall(0, 2), 0);
        due("one that is GONE is none", x.hang(1, 1), 5);
    }

    private static void fills() {
        DoorTown x = town("own0 0 8;own0 0;own0 0;own0 0;own0 0 0;" + NINE);
        due("ONE 4's", x.fill(0), 4);
        due("ONE 0's", x.fill(8), 0);
        due("two are GONE", x.count(5), 2);
        due("none is HUNG", x.rule(2), 0);
        due("he does not pass", x.one(0, 4), 1);
    }

    private static void fillBad() {
        bounds("WALL", 0, 8, w -> town("own0 0 8;own0 0;own0 0;own0 0;own0 0 0;" + NINE).fill(w));
        never("no WALL", w -> town(FIVE).fill(w));
        DoorTown x = town("own0 0 0;wall0 1;");
        x.fill(1);
        x.fill(-1);
        due("nothing is filled", x.rule(2), 1);
    }

    private static void fillNone() {
        DoorTown x = three();
        due("none was ever", x.fill(2), STATE);
        due("the one is GONE", x.fill(1), STATE);
        due("there is one", x.fill(0), 0);
        due("there was one", x.fill(0), STATE);
        due("a WALL that is built", x.build(0, 7), 4);
        due("has none", x.fill(3), STATE);
    }

    // ---- 18 to 20

    private static void askSteps(Document d) {
        d.promise(18, "STEPS of a ONE to a ROOM.", DoorBoundaries::steps);
        d.promise(18, "BAD;", DoorBoundaries::stepsBad);
        d.promise(18, "NONE: he does not REACH it.", DoorBoundaries::stepsNone);
        d.promise(19, "The i-th WALL (i 0 to 6) of a way of so many STEPS,", DoorBoundaries::way);
        d.promise(19, "of several the first by rows of WALLS.", DoorBoundaries::wayOfSeveral);
        d.promise(19, "BAD;", DoorBoundaries::wayBad);
        d.promise(19, "NONE: he does not REACH it,", DoorBoundaries::wayNotReached);
        d.promise(19, "there are not so many.", DoorBoundaries::wayNotSoMany);
        d.promise(20, "ROOMS that two ONES REACH both (bits).", DoorBoundaries::meets);
        d.promise(20, "BAD (also alike).", DoorBoundaries::meetBad);
    }

    private static void steps() {
        DoorTown x = town(ROW);
        for (int r = 0; r <= 5; r++) {
            due("from 0 to " + r, x.steps(0, r), r);
            due("from 5 to " + r, x.steps(1, r), 5 - r);
        }
        due("at HOME", x.steps(4, 7), 0);
        due("at HOME, without a WALL", town("own0 3;").steps(0, 3), 0);
    }

    private static void stepsBad() {
        bounds("ONE", 0, 4, p -> town(ROW).steps(p, 1));
        bounds("ROOM", 0, 7, r -> town(ROW).steps(0, r));
        never("nobody", p -> new DoorTown().steps(p, 0));
    }

    private static void stepsNone() {
        DoorTown x = town(ROW);
        due("no WALL", x.steps(0, 6), NONE);
        due("no DOOR of his", x.steps(4, 0), NONE);
        x.fill(2);
        due("beyond one that is GONE", x.steps(0, 3), NONE);
        due("as far as it", x.steps(0, 2), 2);
        x.alter(0, 1, 1);
        due("not of the HOUSE: his own alone", x.steps(0, 2), NONE);
    }

    private static void way() {
        DoorTown x = town(ROW);
        for (int i = 0; i < 5; i++) {
            due("from 0, WALL " + i, x.way(0, 5, i), i);
            due("from 5, WALL " + i, x.way(1, 0, i), 4 - i);
        }
        due("the only one", x.way(0, 1, 0), 0);
        due("the only one, back", x.way(1, 4, 0), 4);
    }

    private static void wayOfSeveral() {
        // 0-1 by 0, 1-2 by 3; 0-3 by 1, 3-2 by 2: rows 0 3 and 1 2
        DoorTown x = town("house0 0 0;house0 2 1;house0 0 2;house0 0 3;wall0 1;wall0 3;wall3 2;wall1 2;");
        due("0 is ahead of 1", x.way(0, 2, 0), 0);
        due("though 3 is behind 2", x.way(0, 2, 1), 3);
        due("back: 2 is ahead of 3", x.way(1, 0, 0), 2);
        due("back: then 1", x.way(1, 0, 1), 1);
        // by 0 it is three STEPS, by 4 alone one
        DoorTown y = town("house0 0 0;house0 0 1;house0 0 2;house0 0 3;house0 0 4;wall0 1;wall1 2;wall2 3;wall0 3;wall0 3;");
        due("fewest STEPS, then the first of two", y.way(0, 3, 0), 3);
        due("no second", y.way(0, 3, 1), NONE);
        // two DOORS side by side on the second STEP
        DoorTown z = town("house0 0 4;house0 0 3;house0 0 1;wall5 6;wall1 2;wall5 6;wall2 1;wall0 1;");
        due("the only first", z.way(0, 2, 0), 4);
        due("the first of two second", z.way(0, 2, 1), 1);
    }

    private static void wayBad() {
        bounds("ONE", 0, 4, p -> town(ROW).way(p, 1, 0));
        bounds("ROOM", 0, 7, r -> town(ROW).way(0, r, 0));
        bounds("i", 0, 6, i -> town(ROW).way(0, 5, i));
        bounds("i at HOME", 0, 6, i -> town(ROW).way(0, 0, i));
        never("nobody", p -> new DoorTown().way(p, 0, 0));
    }

    private static void wayNotReached() {
        DoorTown x = town(ROW);
        for (int i = 0; i <= 6; i++) {
            due("no WALL", x.way(0, 7, i), NONE);
            due("no DOOR of his", x.way(4, 0, i), NONE);
        }
        x.fill(1);
        due("a way that ends", x.way(0, 2, 0), NONE);
    }

    private static void wayNotSoMany() {
        DoorTown x = town(ROW);
        due("the fifth", x.way(0, 5, 4), 4);
        due("no sixth", x.way(0, 5, 5), NONE);
        due("no seventh", x.way(0, 5, 6), NONE);
        due("no second", x.way(0, 1, 1), NONE);
        for (int i = 0; i <= 6; i++) {
            due("none at HOME", x.way(0, 0, i), NONE);
        }
    }

    private static void meets() {
        DoorTown x = town("house0 0 0;house0 1;own1 1;own2 7;wall0 1;");
        due("two", x.meet(0, 1), 3);
        due("one", x.meet(0, 2), 2);
        due("one, the other way round", x.meet(2, 0), 2);
        due("none", x.meet(0, 3), 0);
    }

    private static void meetBad() {
        for (int p = 0; p < 5; p++) {
            due("alike", town(ROW).meet(p, p), BAD);
        }
        bounds("one", 0, 4, p -> town(ROW).meet(p, 2));
        bounds("the other", 0, 4, q -> town(ROW).meet(2, q));
        due("alike and none such", town(ROW).meet(5, 5), BAD);
        never("nobody", p -> new DoorTown().meet(p, 1 - p));
        never("nobody else", q -> town("own0 0;").meet(0, q));
    }

    // ---- 21, 22

    private static void askRuns(Document d) {
        d.promise(21, "BY THE PLAN: how many ACTS came (what 0),", DoorBoundaries::runsCame);
        d.promise(21, "the first that is passed over (1: its place, from 0 on; NONE),", DoorBoundaries::runsPassedOver);
        d.promise(21, "ROOMS that all REACH, summed (2),", DoorBoundaries::runsRooms);
        d.promise(21, "how many DOORS are HUNG (3).", DoorBoundaries::runsHung);
        d.promise(21, "BAD.", () -> {
            bounds("what", 0, 3, what -> new DoorTown().runs(what));
            bounds("what of a town", 0, 3, what -> town(FIVE + NINE + SIX).runs(what));
        });
        d.promise(22, "BY THE PLAN: ROOMS that a ONE REACHES then (bits).", DoorBoundaries::ahead);
        d.promise(22, "BAD.", () -> {
            bounds("ONE", 0, 4, p -> town(FIVE + NINE + SIX).ahead(p));
            never("nobody", p -> new DoorTown().ahead(p));
        });
    }

    private static void runsCame() {
        due("no ACT", new DoorTown().runs(0), 0);
        due("no ACT, some are HUNG", town(ROW).runs(0), 0);
        due("one of six alike", town(FIVE + NINE + SIX).runs(0), 1);
        due("five", town(FIVE + NINE + "plan0 0 1 1 2 2 3 3 4 4 0 5;").runs(0), 5);
        DoorTown x = three();
        x.plan(2, 2);
        x.plan(0, 1);
        x.plan(1, 0);
        due("GONE, HUNG, taken: none", x.runs(0), 0);
    }

    private static void runsPassedOver() {
        due("no ACT", new DoorTown().runs(1), NONE);
        due("all came", town(FIVE + NINE + "plan0 0 1 1 2 2 3 3 4 4;").runs(1), NONE);
        due("the last", town(FIVE + NINE + "plan0 0 1 1 2 2 3 3 4 4 0 5;").runs(1), 5);
        due("the second", town(FIVE + NINE + SIX).runs(1), 1);
        due("the first", town("own0 0 0;own0 0;wall0 1;wall0 1;plan0 1 1 0 1 1;").runs(1), 0);
    }

    private static void runsRooms() {
        due("nobody", new DoorTown().runs(2), 0);
        due("HOMES alone", town(FIVE).runs(2), 5);
        due("by one ACT", town(FIVE + NINE + SIX).runs(2), 6);
        due("four of six ROOMS and a HOME", town(ROW).runs(2), 4 * 6 + 1);
        DoorTown x = town("house0 0;house0 0;own1 0;wall0 1;wall1 2;plan0 0 1 1;");
        due("two of three and a HOME", x.runs(2), 7);
        due("as it is: HOMES", x.one(0, 4) + x.one(1, 4) + x.one(2, 4), 3);
    }

    private static void runsHung() {
        due("none", new DoorTown().runs(3), 0);
        due("those that are", town(ROW).runs(3), 5);
        due("one more", town("own0 0 0;own0 0;own0 0;wall0 1;wall0 1;plan1 1 2 1;").runs(3), 2);
        DoorTown x = town(FIVE + NINE + "plan0 0 1 1 2 2 3 3 4 4;");
        due("all five", x.runs(3), 5);
        due("none as it is", x.rule(2), 0);
    }

    private static void ahead() {
        DoorTown x = town("own0 0;house1 1 1;house1 2;own3 7;wall0 1;wall1 2;wall2 3;wall3 7;plan0 0 2 2 3 3 0 3;");
        due("by his own", x.ahead(0), 3);
        due("by another's of his HOUSE", x.ahead(1), 2 + 4 + 8);
        due("by both", x.ahead(2), 2 + 4 + 8);
        due("his own at HOME 7", x.ahead(3), 128 + 8);
        due("nothing is changed", x.rule(2), 1);
        due("as it is", x.one(0, 4), 1);
        due("no PLAN", town(ROW).ahead(0), 63);
        due("no PLAN, HOME alone", town(ROW).ahead(4), 128);
    }
}
