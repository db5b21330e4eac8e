/** The sentences of promises 23 to 31 (what is best, doors that jam), each with a test of its own. */
final class BestBoundaries extends Asking {
    private static final String FIVE = TermsBoundaries.FIVE, NINE = TermsBoundaries.NINE, SIX = TermsBoundaries.SIX;
    /** ONE 0 is HUNG, 1 FREE, 2 GONE; WALL 0 is taken. */
    private static final String THREE = "own0 0 0;own0 0;own0 0 1;wall0 1;wall0 2;wall0 3;room2 4;room3 5;";

    private BestBoundaries() {
    }

    static void ask(Document d) {
        askBest(d);
        askFriend(d);
        askGain(d);
        askShut(d);
        askLeave(d);
        askKindly(d);
        askDear(d);
        askLuck(d);
    }

    private static DoorTown three() {
        DoorTown x = town(THREE);
        x.fill(1);
        return x;
    }

    private static void both(String what, int first, int second, long wantFirst, long wantSecond) {
        due(what + " (what 0)", first, wantFirst);
        due(what + " (what 1)", second, wantSecond);
    }

    private static void best(String what, DoorTown x, int p, int r, int wall, int steps) {
        both(what, x.best(p, r, 0), x.best(p, r, 1), wall, steps);
    }

    private static void friend(String what, DoorTown x, int p, int r, int who, int steps) {
        both(what, x.friend(p, r, 0), x.friend(p, r, 1), who, steps);
    }

    private static void gain(String what, DoorTown x, int p, int wall, int gain) {
        both(what, x.gain(p, 0), x.gain(p, 1), wall, gain);
    }

    private static void shut(String what, DoorTown x, int p, int r, int many, int which) {
        both(what, x.shut(p, r, 0), x.shut(p, r, 1), many, which);
    }

    private static void leave(String what, DoorTown x, int act, int rooms) {
        both(what, x.leave(0), x.leave(1), act, rooms);
    }

    private static void kindly(String what, DoorTown x, int p, int kind, int rooms) {
        both(what, x.kindly(p, 0), x.kindly(p, 1), kind, rooms);
    }

    private static void dear(String what, DoorTown x, int p, int wall, int cost) {
        both(what, x.dear(p, 0), x.dear(p, 1), wall, cost);
    }

    // ---- 23

    private static void askBest(Document d) {
        d.promise(23, "The WALL in which a ONE is to HANG his DOOR so that he REACHES a ROOM, by fewest STEPS,",
            BestBoundaries::bestFewest);
        d.promise(23, "of several the first (what 0),", BestBoundaries::bestFirst);
        d.promise(23, "these STEPS (1).", BestBoundaries::bestSteps);
        d.promise(23, "BAD;", BestBoundaries::bestBad);
        d.promise(23, "STATE: it is not FREE;", BestBoundaries::bestNotFree);
        d.promise(23, "NONE: by none.", BestBoundaries::bestNone);
    }

    private static void bestFewest() {
        DoorTown x = town("house0 0 0;house0 7 1;house0 0;wall0 1;wall1 2;wall2 3;wall1 3;wall0 3;");
        best("three, two or one STEPS: one", x, 2, 3, 4, 1);
        due("nothing is changed", x.one(2, 6), 0);
        DoorTown y = town("house0 0 0;house0 7 1;house0 0;wall0 1;wall1 2;wall2 3;wall1 3;");
        best("three or two STEPS: two", y, 2, 3, 3, 2);
        best("HOME 0: by any", y, 2, 0, 2, 0);
    }

    private static void bestFirst() {
        DoorTown x = town("own0 0;wall5 6;wall1 0;wall0 1;wall0 1;");
        best("the first of three", x, 0, 1, 1, 1);
        best("at HOME the first of all", x, 0, 0, 0, 0);
        DoorTown y = town("own0 0;own1 1 0;own0 2 1;" + NINE);
        best("the first that is empty", y, 0, 1, 2, 1);
        DoorTown z = town("own0 0;" + "wall1 2;".repeat(8) + "wall7 0;");
        best("the last", z, 0, 7, 8, 1);
    }

    private static void bestSteps() {
        DoorTown x = town("house0 0;house0 1 1;house0 2 2;house0 3 3;house0 4 4;wall0 1;wall1 2;wall2 3;wall3 4;wall4 5;");
        for (int r = 1; r <= 5; r++) {
            best("STEPS to " + r, x, 0, r, 0, r);
        }
        best("no STEPS", x, 0, 0, 0, 0);
    }

    private static void bestBad() {
        bounds("ONE", 0, 2, p -> three().best(p, 3, 0));
        bounds("ROOM", 0, 7, r -> three().best(1, r, 0));
        bounds("what", 0, 1, what -> three().best(1, 3, what));
        never("nobody", p -> new DoorTown().best(p, 0, 0));
    }

    private static void bestNotFree() {
        DoorTown x = three();
        best("HUNG, to where he may come", x, 0, 2, STATE, STATE);
        best("HUNG, to his HOME", x, 0, 0, STATE, STATE);
        best("GONE", x, 2, 2, STATE, STATE);
        best("GONE, to his HOME", x, 2, 0, STATE, STATE);
        best("FREE", x, 1, 2, 1, 1);
    }

    private static void bestNone() {
        DoorTown x = three();
        best("no WALL leads there", x, 1, 7, NONE, NONE);
        best("the WALL is taken", x, 1, 1, NONE, NONE);
        best("there is no WALL, not for his HOME", town("own0 0;"), 0, 0, NONE, NONE);
        best("no WALL is empty, not for his HOME", town("own0 0;own0 0 0;wall0 1;"), 0, 0, NONE, NONE);
        best("his own lets him not", town("gaol0 0;wall0 1;"), 0, 1, NONE, NONE);
        best("his own lets him not, but he is at HOME", town("gaol0 0;wall0 1;"), 0, 0, 0, 0);
    }

    // ---- 24

    private static void askFriend(Document d) {
        d.promise(24, "The other ONE, and the WALL in which that one is to HANG his DOOR so that a ONE REACHES a ROOM,",
            BestBoundaries::friendOther);
        d.promise(24, "by fewest STEPS:", BestBoundaries::friendFewest);
        d.promise(24, "10 times who and the WALL, of several the least (what 0),", BestBoundaries::friendLeast);
        d.promise(24, "these STEPS (1).", BestBoundaries::friendSteps);
        d.promise(24, "BAD;", BestBoundaries::friendBad);
        d.promise(24, "NONE: nobody.", BestBoundaries::friendNone);
    }

    private static void friendOther() {
        DoorTown x = town("own0 0;gaol0 5;wall0 1;");
        friend("not himself, the gaoler", x, 0, 1, 10, 1);
        friend("his own is not another's", x, 1, 1, NONE, NONE);
        DoorTown y = town("own0 0 0;gaol0 5;wall5 6;wall0 1;");
        friend("though his own is HUNG", y, 0, 1, 11, 1);
        y.fill(0);
        friend("though his own is GONE", y, 0, 1, 11, 1);
        due("nothing is changed", y.one(1, 6), 0);
    }

    private static void friendFewest() {
        DoorTown x = town("own0 0;gaol0 5;house0 5 1;wall1 2;wall0 1;wall0 2;");
        friend("one STEP, not two", x, 0, 2, 12, 1);
        DoorTown y = town("own0 0;gaol0 5;house0 5 1;wall1 2;wall0 1;");
        friend("two STEPS, for there is no other", y, 0, 2, 10, 2);
    }

    private static void friendLeast() {
        DoorTown x = town("house0 0;house0 0;house0 0;wall0 1;wall0 1;");
        friend("ONE 0, WALL 0", x, 1, 1, 0, 1);
        friend("ONE 0, WALL 0", x, 2, 1, 0, 1);
        friend("ONE 1, WALL 0", x, 0, 1, 10, 1);
        x.hang(1, 0);
        friend("ONE 2, WALL 1: the only one that is left", x, 0, 1, 21, 1);
        DoorTown y = town("own0 0 0;own0 0 1;own0 0 2;own0 0 3;gaol0 7;" + NINE.substring(8) + "wall0 2;");
        friend("ONE 4, WALL 8: most", y, 0, 2, 48, 1);
    }

    private static void friendSteps() {
        DoorTown x = town("house0 0;house0 1 1;house0 2 2;house0 3 3;house0 4;wall0 1;wall1 2;wall2 3;wall3 4;wall5 6;");
        for (int r = 1; r <= 4; r++) {
            friend("STEPS to " + r, x, 0, r, 40, r);
        }
        friend("no STEPS to his HOME, by any", x, 0, 0, 40, 0);
    }

    private static void friendBad() {
        bounds("ONE", 0, 2, p -> three().friend(p, 3, 0));
        bounds("ROOM", 0, 7, r -> three().friend(0, r, 0));
        bounds("what", 0, 1, what -> three().friend(0, 3, what));
        never("nobody", p -> new DoorTown().friend(p, 0, 0));
    }

    private static void friendNone() {
        friend("alone", town("house0 0;wall0 1;"), 0, 1, NONE, NONE);
        friend("alone, to his HOME", town("house0 0;wall0 1;"), 0, 0, NONE, NONE);
        friend("no WALL", town("house0 0;house0 0;"), 0, 0, NONE, NONE);
        friend("no WALL is empty", town("house0 0;house0 0;house0 0 0;wall0 1;"), 0, 1, NONE, NONE);
        friend("the others' are HUNG", town("house0 0;house0 0 0;wall1 2;wall0 1;"), 0, 1, NONE, NONE);
        DoorTown x = town("house0 0;house0 0 0;wall1 2;wall0 1;");
        x.fill(0);
        friend("the others' are GONE", x, 0, 1, NONE, NONE);
        friend("no WALL leads there", town("house0 0;house0 0;wall0 1;"), 0, 7, NONE, NONE);
        friend("the other's lets him not", town("house0 0;own0 0;wall0 1;"), 0, 1, NONE, NONE);
    }

    // ---- 25

    private static void askGain(Document d) {
        d.promise(25, "The WALL in which a ONE is to HANG his DOOR so that his GAIN is most,", BestBoundaries::gainMost);
        d.promise(25, "more than as it is,", BestBoundaries::gainMore);
        d.promise(25, "of several the first (what 0),", BestBoundaries::gainFirst);
        d.promise(25, "that GAIN (1).", BestBoundaries::gainThat);
        d.promise(25, "BAD;", BestBoundaries::gainBad);
        d.promise(25, "STATE: it is not FREE;", BestBoundaries::gainNotFree);
        d.promise(25, "NONE: by none.", BestBoundaries::gainNone);
    }

    private static void gainMost() {
        DoorTown x = town("own0 0;wall0 1;wall0 2;wall0 3;room0 99;room1 7;room2 9;room3 8;");
        gain("neither the first nor the last", x, 0, 1, 9);
        due("nothing is changed", x.one(0, 6), 0);
        DoorTown y = town("house0 0;house0 5 0;wall1 2;wall0 1;wall0 3;room1 1;room2 2;room3 2;");
        gain("with what lies beyond", y, 0, 1, 3);
    }

    private static void gainMore() {
        DoorTown x = town("house0 0 0;house0 0;wall0 1;wall0 1;wall1 0;room1 9;");
        gain("alike is not more", x, 1, NONE, NONE);
        x.build(1, 2);
        gain("no WORTH is not more", x, 1, NONE, NONE);
        x.price(2, 1);
        gain("1 is more", x, 1, 3, 10);
    }

    private static void gainFirst() {
        DoorTown x = town("own0 0;wall5 6;wall0 1;wall0 2;wall0 2;room1 3;room2 3;");
        gain("the first of three", x, 0, 1, 3);
        x.price(2, 4);
        gain("the first of two", x, 0, 2, 4);
        DoorTown y = town("own0 0;" + "wall1 2;".repeat(8) + "wall7 0;room7 1;");
        gain("the last", y, 0, 8, 1);
        gain("WALL 0", town("own0 0;wall0 1;room1 1;"), 0, 0, 1);
    }

    private static void gainThat() {
        DoorTown x = town("house0 0 0;house0 0;wall0 1;wall1 2;room0 99;room1 98;room2 97;");
        gain("with what he has, but his HOME", x, 1, 1, 98 + 97);
        DoorTown y = town("house0 0 0;house0 0 1;house0 0 2;house0 0 3;house0 0;wall0 1;wall0 2;wall0 3;wall0 4;wall0 5;");
        for (int r = 0; r < 8; r++) {
            y.price(r, 99);
        }
        gain("most", y, 4, 4, 5 * 99);
    }

    private static void gainBad() {
        bounds("ONE", 0, 2, p -> three().gain(p, 0));
        bounds("what", 0, 1, what -> three().gain(1, what));
        never("nobody", p -> new DoorTown().gain(p, 0));
    }

    private static void gainNotFree() {
        DoorTown x = three();
        gain("HUNG", x, 0, STATE, STATE);
        gain("GONE", x, 2, STATE, STATE);
        gain("FREE", x, 1, 2, 5);
    }

    private static void gainNone() {
        gain("no WALL", town("own0 0;room0 9;"), 0, NONE, NONE);
        gain("no WORTH", town("own0 0;wall0 1;room0 9;"), 0, NONE, NONE);
        gain("no WALL is empty", town("own0 0;own0 0 0;wall0 1;room1 9;"), 0, NONE, NONE);
        gain("his own lets him not", town("gaol0 0;wall0 1;room1 9;"), 0, NONE, NONE);
        gain("no WALL that leads on", town("own0 0;wall1 2;room1 9;"), 0, NONE, NONE);
    }

    // ---- 26

    private static void askShut(Document d) {
        d.promise(26, "The fewest WALLS to be FILLED so that a ONE does not REACH a ROOM: how many (what 0),",
            BestBoundaries::shutFewest);
        d.promise(26, "which (1; bits),", BestBoundaries::shutWhich);
        d.promise(26, "of several the least such number.", BestBoundaries::shutLeast);
        d.promise(26, "BAD;", BestBoundaries::shutBad);
        d.promise(26, "STATE: it is his HOME.", BestBoundaries::shutHome);
    }

    private static void shutFewest() {
        // two DOORS side by side, then one
        DoorTown x = town("house0 0 0;house0 0 1;house0 0 2;wall0 1;wall0 1;wall1 2;");
        shut("one behind two", x, 0, 2, 1, 4);
        shut("both", x, 0, 1, 2, 3);
        due("nothing is changed", x.rule(2), 3);
        shut("not reached: none", x, 0, 7, 0, 0);
        shut("nothing is HUNG: none", town("own0 0;wall0 1;"), 0, 1, 0, 0);
        shut("his own lets him not: none", town("gaol0 0 0;wall0 1;"), 0, 1, 0, 0);
        DoorTown y = town("house0 0 0;house0 0 1;house0 0 2;house0 0 3;house0 0 8;" + NINE);
        shut("all five", y, 0, 1, 5, 256 + 15);
    }

    private static void shutWhich() {
        shut("WALL 0", town("own0 0 0;wall0 1;"), 0, 1, 1, 1);
        shut("WALL 8", town("own0 0 8;" + NINE), 0, 1, 1, 256);
        shut("not that which lets him not", town("own0 0 8;own0 0 0;" + NINE), 0, 1, 1, 256);
        shut("WALLS 3 and 5", town("house0 0 3;house0 1 5;" + NINE), 1, 0, 2, 8 + 32);
    }

    private static void shutLeast() {
        DoorTown x = town("house0 0 0;house0 0 1;wall0 1;wall1 2;");
        shut("the first of a row", x, 0, 2, 1, 1);
        // 0-1 by 0 and 3, 1-2 by 1 and 2: 9 or 6
        DoorTown y = town("house0 0 0;house0 0 1;house0 0 2;house0 0 3;wall0 1;wall1 2;wall1 2;wall0 1;");
        shut("6 is less than 9", y, 0, 2, 2, 6);
        DoorTown z = town("house0 0 0;house0 0 1;house0 0 2;house0 0 3;wall1 2;wall0 1;wall0 1;wall1 2;");
        shut("the other way round", z, 0, 2, 2, 6);
    }

    private static void shutBad() {
        bounds("ONE", 0, 2, p -> three().shut(p, 3, 0));
        bounds("ROOM", 0, 7, r -> three().shut(0, r, 0));
        bounds("what", 0, 1, what -> three().shut(0, 1, what));
        never("nobody", p -> new DoorTown().shut(p, 0, 0));
        due("HOME 7 of nobody", new DoorTown().shut(0, 7, 0), BAD);
    }

    private static void shutHome() {
        for (int r = 0; r < 8; r++) {
            DoorTown x = town("own0 " + r + ";");
            shut("HOME " + r, x, 0, r, STATE, STATE);
            shut("not HOME", x, 0, (r + 1) % 8, 0, 0);
        }
        DoorTown y = town("own0 0 0;wall0 1;");
        y.alter(0, 2, 1);
        shut("the new HOME", y, 0, 1, STATE, STATE);
        shut("the HOME that was", y, 0, 0, 1, 1);
    }

    // ---- 27

    private static void askLeave(Document d) {
        d.promise(27, "The ACT of THE PLAN that is to be left out so that ROOMS that all REACH by it, summed, are most,",
            BestBoundaries::leaveMost);
        d.promise(27, "more than as it is,", BestBoundaries::leaveMore);
        d.promise(27, "of several the first (what 0),", BestBoundaries::leaveFirst);
        d.promise(27, "how many (1).", BestBoundaries::leaveMany);
        d.promise(27, "BAD;", () -> {
            bounds("what", 0, 1, what -> new DoorTown().leave(what));
            bounds("what of a town", 0, 1, what -> town(FIVE + NINE + SIX).leave(what));
        });
        d.promise(27, "NONE: none.", BestBoundaries::leaveNone);
    }

    private static void leaveMost() {
        // without the first the house one comes into WALL 0, without the second the other own one into WALL 1
        DoorTown x = town("own0 0;own0 0;house0 0;own0 0;wall0 1;wall0 2;plan0 0 1 1 2 0 3 1;");
        due("as it is", x.runs(2), 2 + 2 + 1 + 1);
        leave("the first: all REACH 1, ONE 1 also 2", x, 0, 2 + 3 + 2 + 2);
        due("nothing is changed", x.rule(3), 4);
    }

    private static void leaveMore() {
        DoorTown x = town("own0 0;own0 0;wall0 1;plan0 0 1 0;");
        leave("alike is not more", x, NONE, NONE);
        x.alter(1, 0, 1);
        leave("two are more", x, 0, 4);
        DoorTown y = town("own0 0;wall0 1;plan0 0;");
        leave("less is not more", y, NONE, NONE);
    }

    private static void leaveFirst() {
        // 0 and 1 each keep a house one out of a WALL
        DoorTown x = town("own0 0;own0 0;house0 0;house0 0;wall0 1;wall0 2;plan0 0 1 1 2 0 3 1;");
        leave("the first of two", x, 0, 2 + 3 + 2 + 2);
        DoorTown y = town("own0 5 5;own0 5 6;own0 5 7;own0 0;house0 0;" + NINE + "plan0 0 1 0 2 0 0 0 3 0 4 0;");
        leave("place 4", y, 4, 5 * 1 + 2);
    }

    private static void leaveMany() {
        DoorTown x = town("gaol0 0;house0 0;house0 0;house0 0;house0 0;wall0 1;plan0 0 1 0;");
        leave("all but the gaoler, then all", x, 0, 10);
        x.alter(4, 2, 7);
        leave("one is away", x, 0, 9);
    }

    private static void leaveNone() {
        leave("no ACT, nobody", new DoorTown(), NONE, NONE);
        leave("no ACT", town("own0 0 0;wall0 1;"), NONE, NONE);
        leave("six alike: without the first the second comes", town(FIVE + NINE + SIX), NONE, NONE);
    }

    // ---- 28

    private static void askKindly(Document d) {
        d.promise(28, "The KIND of a ONE's DOOR by which ROOMS that all REACH, summed, are most,",
            BestBoundaries::kindlyMost);
        d.promise(28, "of several the first (what 0),", BestBoundaries::kindlyFirst);
        d.promise(28, "how many (1).", BestBoundaries::kindlyMany);
        d.promise(28, "BAD.", BestBoundaries::kindlyBad);
    }

    private static void kindlyMost() {
        kindly("own: he alone is there", town("gaol0 0 0;own1 5;wall0 1;"), 0, 0, 3);
        kindly("house", town("own0 0 0;own0 0;own0 5;wall0 1;"), 0, 1, 5);
        kindly("stranger", town("own0 5 0;own0 5;own1 0;wall0 1;"), 0, 2, 4);
        kindly("gaol", town("own0 5 0;own0 0;own1 0;wall0 1;"), 0, 3, 5);
        DoorTown x = town("own0 0 0;own0 0;own1 0;wall0 1;");
        x.kindly(0, 0);
        due("nothing is changed", x.one(0, 0), 0);
    }

    private static void kindlyFirst() {
        kindly("own and house", town("gaol0 0 0;wall0 1;"), 0, 0, 2);
        kindly("house and gaol", town("own0 0 0;own0 0;own1 0;wall0 1;"), 0, 1, 5);
        kindly("stranger and gaol", town("own0 5 0;own1 0;wall0 1;"), 0, 2, 3);
        kindly("none matters: it is FREE", town("gaol0 0;wall0 1;"), 0, 0, 1);
        DoorTown x = town("gaol0 0 0;own0 0;wall0 1;");
        x.fill(0);
        kindly("none matters: it is GONE", x, 0, 0, 2);
        kindly("none matters: there is no WALL", town("stranger0 0;"), 0, 0, 1);
    }

    private static void kindlyMany() {
        kindly("HOMES alone", town(FIVE), 4, 0, 5);
        DoorTown x = town("own0 0 0;house1 0 1;house1 0 2;house1 0 3;house1 0 4;wall0 1;wall0 2;wall0 3;wall0 4;wall0 5;");
        kindly("four REACH all six", x, 0, 2, 4 * 6 + 1);
        kindly("four REACH five, ONE 0 two", x, 4, 1, 4 * 5 + 2);
    }

    private static void kindlyBad() {
        bounds("ONE", 0, 2, p -> three().kindly(p, 0));
        bounds("what", 0, 1, what -> three().kindly(2, what));
        never("nobody", p -> new DoorTown().kindly(p, 0));
    }

    // ---- 29

    private static void askDear(Document d) {
        d.promise(29, "The WALL the DOOR of which, were it FILLED, would cost a ONE most GAIN,", BestBoundaries::dearMost);
        d.promise(29, "of several the first (what 0),", BestBoundaries::dearFirst);
        d.promise(29, "how much (1).", BestBoundaries::dearMuch);
        d.promise(29, "BAD;", BestBoundaries::dearBad);
        d.promise(29, "NONE: no WALL costs him any.", BestBoundaries::dearNone);
    }

    private static void dearMost() {
        DoorTown x = town("house0 0 0;house0 0 1;house0 0 2;wall0 1;wall0 2;wall0 3;room1 7;room2 9;room3 8;");
        dear("neither the first nor the last", x, 0, 1, 9);
        due("nothing is changed", x.rule(2), 3);
        x.alter(1, 0, 0);
        dear("not that which lets him not", x, 0, 2, 8);
        x.alter(0, 2, 2);
        dear("from elsewhere, none", x, 0, NONE, NONE);
        dear("from HOME 7, B to A", town("own0 7 1;wall0 1;wall3 7;room3 6;room7 9;"), 0, 1, 6);
    }

    private static void dearFirst() {
        DoorTown x = town("house0 0 3;house0 0 1;house0 0 2;wall5 6;wall0 1;wall0 2;wall2 3;room3 5;room1 5;");
        dear("1, and 2 and 3 in a row", x, 0, 1, 5);
        x.price(1, 4);
        dear("2 ahead of 3", x, 0, 2, 5);
        dear("WALL 0 for 1", town("own0 0 0;wall0 1;room1 1;"), 0, 0, 1);
        dear("WALL 8", town("own0 0 8;" + NINE + "room1 1;"), 0, 8, 1);
    }

    private static void dearMuch() {
        DoorTown x = town("house0 0 0;house0 0 1;house0 0 2;house0 0 3;house0 0 4;wall0 1;wall1 2;wall2 3;wall3 4;wall4 5;");
        for (int r = 0; r < 8; r++) {
            x.price(r, 99);
        }
        dear("all behind the first", x, 0, 0, 5 * 99);
        x.price(1, 0);
        x.price(5, 0);
        dear("without WORTH of the first and the last", x, 0, 0, 3 * 99);
    }

    private static void dearBad() {
        bounds("ONE", 0, 2, p -> three().dear(p, 0));
        bounds("what", 0, 1, what -> three().dear(0, what));
        never("nobody", p -> new DoorTown().dear(p, 0));
    }

    private static void dearNone() {
        dear("no WALL", town("own0 0;room0 9;"), 0, NONE, NONE);
        dear("no DOOR", town("own0 0;wall0 1;room1 9;"), 0, NONE, NONE);
        dear("no WORTH", town("own0 0 0;wall0 1;room0 9;"), 0, NONE, NONE);
        dear("another way", town("house0 0 0;house0 0 1;wall0 1;wall0 1;room1 9;"), 0, NONE, NONE);
        dear("it lets him not", town("gaol0 0 0;wall0 1;room1 9;"), 0, NONE, NONE);
        DoorTown x = town("own0 0 0;wall0 1;room1 9;");
        x.fill(0);
        dear("it is GONE", x, 0, NONE, NONE);
    }

    // ---- 30, 31

    private static void askLuck(Document d) {
        d.promise(30, "Each DOOR that is HUNG jams by v out of ten (0 to 10), by itself (it LETS nobody then):",
            BestBoundaries::jams);
        d.promise(30, "that a ONE REACHES a ROOM: 0, 1.", BestBoundaries::luck);
        d.promise(30, "BAD.", BestBoundaries::luckBad);
        d.promise(31, "Likewise, the mean of how many ROOMS a ONE REACHES: 0, 1.", BestBoundaries::mean);
        d.promise(31, "BAD.", BestBoundaries::meanBad);
    }

    private static void luck(String what, DoorTown x, int v, int p, int r, long above, long below) {
        due(what + " (what 0)", x.luck(v, p, r, 0), above);
        due(what + " (what 1)", x.luck(v, p, r, 1), below);
    }

    private static void mean(String what, DoorTown x, int v, int p, long above, long below) {
        due(what + " (what 0)", x.mean(v, p, 0), above);
        due(what + " (what 1)", x.mean(v, p, 1), below);
    }

    private static void jams() {
        DoorTown x = town("own0 0 0;wall0 1;");
        long[] above = {1, 9, 4, 7, 3, 1, 2, 3, 1, 1, 0};
        long[] below = {1, 10, 5, 10, 5, 2, 5, 10, 5, 10, 1};
        for (int v = 0; v <= 10; v++) {
            luck("one DOOR, v " + v, x, v, 0, 1, above[v], below[v]);
        }
        DoorTown y = town("house0 0 0;house0 0 1;wall0 1;wall0 1;");
        // each by itself: 1 less 0.3 by 0.3
        luck("two side by side", y, 3, 0, 1, 91, 100);
        y.fill(1);
        luck("what is GONE does not matter", y, 3, 0, 1, 7, 10);
        DoorTown z = town("own0 0 0;own0 0 1;own0 0;wall0 1;wall0 1;wall0 1;");
        luck("what lets him not does not matter", z, 3, 0, 1, 7, 10);
        due("nothing is changed", z.rule(2), 2);
    }

    private static void luck() {
        DoorTown x = town("house0 0 0;house0 0 1;house0 0 2;house0 0 3;house0 0 4;wall0 1;wall1 2;wall2 3;wall3 4;wall4 5;");
        luck("five in a row, 0.9 each", x, 1, 0, 5, 59049, 100000);
        luck("five in a row, 0.1 each", x, 9, 0, 5, 1, 100000);
        luck("five in a row, a half each", x, 5, 0, 5, 1, 32);
        luck("his HOME, ever", x, 10, 0, 0, 1, 1);
        luck("his HOME, at 7", x, 7, 0, 0, 1, 1);
        luck("not reached, ever", x, 0, 0, 7, 0, 1);
        luck("not reached, at 7", x, 7, 0, 6, 0, 1);
        luck("none jams", x, 0, 0, 5, 1, 1);
        luck("all jam", x, 10, 0, 1, 0, 1);
        luck("no DOOR", town("own0 7;"), 5, 0, 7, 1, 1);
        luck("no DOOR", town("own0 7;"), 5, 0, 0, 0, 1);
        DoorTown y = town("house0 0 0;house0 0 1;house0 0 2;house0 0 3;house0 0 8;" + NINE);
        luck("five side by side, 0.9 each", y, 1, 0, 1, 99999, 100000);
    }

    private static void luckBad() {
        bounds("v", 0, 10, v -> three().luck(v, 0, 1, 0));
        bounds("ONE", 0, 2, p -> three().luck(5, p, 1, 0));
        bounds("ROOM", 0, 7, r -> three().luck(5, 0, r, 0));
        bounds("what", 0, 1, what -> three().luck(5, 0, 1, what));
        never("nobody", p -> new DoorTown().luck(5, p, 0, 0));
    }

    private static void mean() {
        DoorTown x = town("house0 0 0;house0 0 1;house0 0 2;house0 0 3;house0 0 4;wall0 1;wall1 2;wall2 3;wall3 4;wall4 5;");
        mean("none jams", x, 0, 0, 6, 1);
        mean("all jam: his HOME", x, 10, 0, 1, 1);
        // 1, 1/2, 1/4 .. 1/32
        mean("a half each", x, 5, 0, 63, 32);
        // 1, 0.1 .. 0.00001
        mean("0.1 each", x, 9, 0, 111111, 100000);
        // 1, 0.9, 0.81, 0.729, 0.6561, 0.59049: 4.68559
        mean("0.9 each", x, 1, 0, 468559, 100000);
        mean("no DOOR", town("own0 7;"), 5, 0, 1, 1);
        mean("a ROOM of number 7", town("own0 0 0;wall0 7;"), 5, 0, 3, 2);
    }

    private static void meanBad() {
        bounds("v", 0, 10, v -> three().mean(v, 0, 0));
        bounds("ONE", 0, 2, p -> three().mean(5, p, 0));
        bounds("what", 0, 1, what -> three().mean(5, 0, what));
        never("nobody", p -> new DoorTown().mean(5, p, 0));
    }
}
