/** The sentences of promises 32 to 37 (which door it was, by a seed), each with a test of its own. */
final class SeenBoundaries extends Asking {
    private static final String FIVE = TermsBoundaries.FIVE, NINE = TermsBoundaries.NINE;
    /** ONE 0 is HUNG, 1 FREE, 2 GONE. */
    private static final String THREE = "own0 0 0;own0 0;own0 0 1;wall0 1;wall0 2;wall0 3;";

    private SeenBoundaries() {
    }

    static void ask(Document d) {
        askSeen(d);
        askKinds(d);
        askWalls(d);
        askAsk(d);
        askDrift(d);
    }

    private static DoorTown three() {
        DoorTown x = town(THREE);
        x.fill(1);
        return x;
    }

    // ---- 32, 33

    private static void askSeen(Document d) {
        d.promise(32, "SEEN: a ONE REACHES a ROOM, or not: how many are.", SeenBoundaries::sees);
        d.promise(32, "BAD;", SeenBoundaries::seeBad);
        d.promise(32, "FULL.", SeenBoundaries::seeFull);
        d.promise(33, "SEEN are the first n alone: how many there were.", SeenBoundaries::forgets);
        d.promise(33, "BAD (n above that, too).", SeenBoundaries::forgetBad);
    }

    private static void sees() {
        DoorTown x = three();
        due("as it is", x.see(0, 1, true), 1);
        due("not as it is", x.see(0, 7, true), 2);
        due("what can not be beside it", x.see(0, 7, false), 3);
        due("alike", x.see(0, 7, false), 4);
        due("four are", x.count(0), 4);
    }

    private static void seeBad() {
        bounds("ONE", 0, 2, p -> three().see(p, 0, true));
        bounds("ONE, not", 0, 2, p -> three().see(p, 0, false));
        bounds("ROOM", 0, 7, r -> three().see(0, r, true));
        bounds("ROOM, not", 0, 7, r -> three().see(0, r, false));
        never("nobody", p -> new DoorTown().see(p, 0, true));
        DoorTown x = three();
        x.see(3, 0, true);
        x.see(0, 8, true);
        due("none are", x.count(0), 0);
    }

    private static void seeFull() {
        DoorTown x = three();
        for (int n = 1; n <= 6; n++) {
            due("the n-th", x.see(0, 0, true), n);
        }
        due("the seventh", x.see(0, 7, true), FULL);
        due("the seventh, not", x.see(0, 0, false), FULL);
        due("six are", x.count(0), 6);
        due("the seventh does not count", x.kinds(0), 15);
        x.forget(5);
        due("one more may be", x.see(0, 0, false), 6);
        due("it counts", x.kinds(0), 0);
    }

    private static void forgets() {
        DoorTown x = three();
        due("none of none", x.forget(0), 0);
        x.see(0, 1, true);
        x.see(0, 1, false);
        x.see(0, 2, true);
        due("all", x.forget(3), 3);
        due("all stay", x.count(0), 3);
        due("the first two", x.forget(2), 3);
        due("they can not be", x.kinds(0), 0);
        due("the first", x.forget(1), 2);
        due("it may be", x.kinds(0), 3);
        due("none", x.forget(0), 1);
        due("all may be", x.kinds(0), 15);
        due("none are", x.count(0), 0);
    }

    private static void forgetBad() {
        bounds("n of none", 0, 0, n -> three().forget(n));
        bounds("n of six", 0, 6, n -> {
            DoorTown x = three();
            for (int i = 0; i < 6; i++) {
                x.see(0, 0, true);
            }
            return x.forget(n);
        });
        DoorTown x = three();
        x.see(0, 0, true);
        x.forget(2);
        x.forget(-1);
        due("one is", x.count(0), 1);
    }

    // ---- 34

    private static void askKinds(Document d) {
        d.promise(34, "KINDS of a ONE's DOOR (bits) by which, all else as it is, all is as SEEN.", SeenBoundaries::kinds);
        d.promise(34, "KINDS of a ONE's DOOR (bits) by which, all else as it is, all is as SEEN.", SeenBoundaries::allKinds);
        d.promise(34, "KINDS of a ONE's DOOR (bits) by which, all else as it is, all is as SEEN.", SeenBoundaries::noKinds);
        d.promise(34, "BAD.", () -> {
            bounds("ONE", 0, 2, p -> three().kinds(p));
            never("nobody", p -> new DoorTown().kinds(p));
        });
    }

    private static void kinds() {
        // 1 is of his HOUSE, 2 is not
        String text = "own0 0 0;own0 0;own1 0;wall0 1;";
        int[] lets = {1, 3, 4, 6};
        for (int whom = 0; whom < 8; whom++) {
            DoorTown x = town(text);
            for (int p = 0; p < 3; p++) {
                x.see(p, 1, (whom >> p & 1) == 1);
            }
            int want = 0;
            for (int k = 0; k < 4; k++) {
                want |= lets[k] == whom ? 1 << k : 0;
            }
            due("who came " + whom, x.kinds(0), want);
        }
        DoorTown y = town(text);
        y.see(1, 1, true);
        due("house or gaol", y.kinds(0), 2 + 8);
        due("nothing is changed", y.one(0, 0), 0);
    }

    private static void allKinds() {
        due("nothing is SEEN", three().kinds(0), 15);
        DoorTown x = three();
        x.see(0, 0, true);
        x.see(0, 7, false);
        due("what is so by each", x.kinds(0), 15);
        x.see(0, 1, true);
        due("another's, that is FREE", x.kinds(1), 15);
        due("another's, that is GONE", x.kinds(2), 15);
    }

    private static void noKinds() {
        DoorTown x = three();
        x.see(0, 7, true);
        due("where nobody comes", x.kinds(0), 0);
        x.forget(0);
        x.see(0, 0, false);
        due("not at HOME", x.kinds(0), 0);
        x.forget(0);
        x.see(0, 1, false);
        due("by another's that is as it is", x.kinds(1), 0);
    }

    // ---- 35

    private static void askWalls(Document d) {
        d.promise(35, "WALLS (bits) in which a ONE's DOOR (be it HUNG, FREE or GONE) may be HUNG", SeenBoundaries::walls);
        d.promise(35, "(also that in which it is;", SeenBoundaries::wallsWhereItIs);
        d.promise(35, "none in which another one is),", SeenBoundaries::wallsOfAnother);
        d.promise(35, "by which, all else as it is, all is as SEEN.", SeenBoundaries::wallsAsSeen);
        d.promise(35, "BAD.", () -> {
            bounds("ONE", 0, 2, p -> three().walls(p));
            never("nobody", p -> new DoorTown().walls(p));
        });
    }

    private static void walls() {
        DoorTown x = three();
        due("HUNG", x.walls(0), 7);
        due("FREE", x.walls(1), 6);
        due("GONE", x.walls(2), 6);
        due("HUNG stays so", x.one(0, 3), 0);
        due("FREE stays so", x.one(1, 6), 0);
        due("GONE stays so", x.one(2, 6), 2);
        due("no WALL", town("own0 0;").walls(0), 0);
        due("all nine", town(FIVE + NINE).walls(4), 511);
    }

    private static void wallsWhereItIs() {
        due("the only WALL", town("own0 0 0;wall0 1;").walls(0), 1);
        due("WALL 8", town("own0 0 8;own0 0 0;" + NINE).walls(0), 511 - 1);
        DoorTown x = three();
        x.see(0, 1, true);
        due("where it is alone", x.walls(0), 1);
    }

    private static void wallsOfAnother() {
        DoorTown x = town("own0 0 0;own0 0 8;own0 0 4;own0 0;own0 0;" + NINE);
        due("but two", x.walls(0), 511 - 256 - 16);
        due("but three", x.walls(3), 511 - 256 - 16 - 1);
        x.fill(8);
        due("one that is GONE is none", x.walls(3), 511 - 16 - 1);
        due("none is left", town("own0 0;own0 0 0;wall0 1;").walls(0), 0);
    }

    private static void wallsAsSeen() {
        DoorTown x = town("own0 0;wall0 1;wall0 2;wall0 1;wall1 2;");
        x.see(0, 1, true);
        due("he came to 1", x.walls(0), 1 + 4);
        x.see(0, 2, true);
        due("and to 2: by none", x.walls(0), 0);
        x.forget(0);
        x.see(0, 1, false);
        due("he came not to 1", x.walls(0), 2 + 8);
        x.see(0, 2, false);
        due("nor to 2: not by 1", x.walls(0), 8);
        // all else as it is: another's DOOR leads on
        DoorTown y = town("own0 0;gaol0 7 0;wall1 3;wall0 1;wall0 2;wall7 6;");
        y.see(0, 3, true);
        due("to 3 by way of 1", y.walls(0), 2);
        y.see(1, 7, true);
        due("the other at HOME", y.walls(0), 2);
        y.see(1, 6, true);
        due("the other where he is not", y.walls(0), 0);
    }

    // ---- 36

    private static void askAsk(Document d) {
        d.promise(36, "The ONE and the ROOM, to see whether he REACHES it, so that of walls() of a ONE fewest are left at the worst,",
            SeenBoundaries::askFewest);
        d.promise(36, "fewer than now:", SeenBoundaries::askFewer);
        d.promise(36, "10 times who and the ROOM, of several the least (what 0),", SeenBoundaries::askLeast);
        d.promise(36, "how many these are (1).", SeenBoundaries::askMany);
        d.promise(36, "BAD;", SeenBoundaries::askBad);
        d.promise(36, "NONE: none.", SeenBoundaries::askNone);
    }

    private static void ask(String what, DoorTown x, int p, int who, int many) {
        due(what + " (what 0)", x.ask(p, 0), who);
        due(what + " (what 1)", x.ask(p, 1), many);
    }

    private static void askFewest() {
        // by 4 WALLS to 1, by 3 to 2, by 2 to 3
        DoorTown x = town("own0 0;wall0 1;wall0 1;wall0 1;wall0 1;wall0 2;wall0 2;wall0 2;wall0 3;wall0 3;");
        ask("5 at the worst by 1; 6 by 2, 7 by 3", x, 0, 1, 5);
        DoorTown y = town("own0 0;wall0 1;wall0 2;wall0 2;wall0 2;wall0 3;wall0 3;");
        ask("5 by 1, 3 by 2, 4 by 3", y, 0, 2, 3);
        due("nothing is changed", y.one(0, 6), 0);
        due("nothing is SEEN", y.count(0), 0);
        y.see(0, 2, false);
        ask("then 2 by 1 or 3", y, 0, 1, 2);
    }

    private static void askFewer() {
        DoorTown x = town("own0 0;wall0 1;wall0 1;");
        ask("both lead to 1", x, 0, NONE, NONE);
        x.build(1, 2);
        ask("2 of 3", x, 0, 1, 2);
        x.see(0, 1, true);
        ask("both again", x, 0, NONE, NONE);
    }

    private static void askLeast() {
        DoorTown x = town("own0 3;own0 0;wall0 2;wall0 1;");
        ask("by 1 or by 2", x, 1, 11, 1);
        DoorTown y = town("stranger0 0;own1 0;own1 0;wall0 2;wall0 1;");
        ask("ONE 1 or 2, to 1 or 2", y, 0, 11, 1);
        DoorTown z = town("own0 1;wall0 1;wall4 5;");
        ask("ONE 0, ROOM 0", z, 0, 0, 1);
        DoorTown v = town("own0 0;own0 0;own0 0;own0 0;own0 6;wall6 7;wall0 1;");
        ask("ONE 4, ROOM 7: most", v, 4, 47, 1);
        DoorTown u = town("gaol0 0;own0 5;own0 6;own0 5;own0 6;wall5 6;wall0 1;");
        ask("ONE 1, ROOM 6, or 2, ROOM 5", u, 0, 16, 1);
    }

    private static void askMany() {
        // each ROOM by one WALL alone
        DoorTown x = town("own0 0;wall0 1;wall0 2;wall0 3;wall0 4;wall0 5;wall0 6;wall0 7;wall1 2;");
        ask("7 of 8", x, 0, 1, 7);
        ask("5 of 9", town("own0 0;wall0 1;wall0 1;wall0 1;wall0 1;" + "wall1 2;".repeat(5)), 0, 1, 5);
        ask("1 of 2", town("own0 0;wall0 1;wall1 2;"), 0, 1, 1);
    }

    private static void askBad() {
        bounds("ONE", 0, 2, p -> three().ask(p, 0));
        bounds("what", 0, 1, what -> three().ask(1, what));
        never("nobody", p -> new DoorTown().ask(p, 0));
    }

    private static void askNone() {
        ask("no WALL", town("own0 0;"), 0, NONE, NONE);
        ask("one WALL", town("own0 0;wall0 1;"), 0, NONE, NONE);
        ask("no WALL is empty", town("own0 0;own0 0 0;wall0 1;"), 0, NONE, NONE);
        ask("none that he comes to", town("own0 7;wall0 1;wall0 2;"), 0, NONE, NONE);
        DoorTown x = three();
        x.see(0, 7, true);
        ask("none is left", x, 0, NONE, NONE);
        x.forget(0);
        x.see(0, 1, true);
        ask("one is left", x, 0, NONE, NONE);
    }

    // ---- 37

    private static void askDrift(Document d) {
        d.promise(37, "By itself (as it would be; nothing is changed),", SeenBoundaries::driftByItself);
        d.promise(37, "n times (1 to 60) by a seed:", SeenBoundaries::driftTimes);
        d.promise(37, "the seed becomes seed times 1103515245 and 12345; bits 16 to 30 of it are got:", SeenBoundaries::driftSeed);
        d.promise(37, "the ONE got modulo PEOPLE HANGS his DOOR in the WALL got by 8 (down) modulo WALLS;",
            SeenBoundaries::driftHangs);
        d.promise(37, "if he can not, that WALL is FILLED, if there is a DOOR, and the DOOR that was in it is FREE again:",
            SeenBoundaries::driftFills);
        d.promise(37, "ROOMS that all REACH in the end, summed (what 0), DOORS that are HUNG then (1).", SeenBoundaries::driftTells);
        d.promise(37, "BAD;", SeenBoundaries::driftBad);
        d.promise(37, "STATE: there is nobody or no WALL.", SeenBoundaries::driftState);
    }

    private static void drift(String what, DoorTown x, int seed, int n, int rooms, int hung) {
        due(what + " (what 0)", x.drift(seed, n, 0), rooms);
        due(what + " (what 1)", x.drift(seed, n, 1), hung);
    }

    private static void driftByItself() {
        DoorTown x = town("own0 0 0;own0 0;wall0 1;wall0 2;plan1 1;");
        x.see(0, 1, true);
        for (int i = 0; i < 3; i++) {
            drift("again", x, 1, 60, x.drift(1, 60, 0), x.drift(1, 60, 1));
        }
        due("HUNG", x.one(0, 3), 0);
        due("FREE", x.one(1, 6), 0);
        due("GONE", x.count(5), 0);
        due("ACTS", x.rule(3), 1);
        due("SEEN", x.count(0), 1);
        DoorTown y = town("own0 0;wall0 1;");
        drift("from where it is", y, 1, 1, 2, 1);
        y.hang(0, 0);
        drift("from where it is", y, 1, 1, 1, 0);
    }

    private static void driftTimes() {
        DoorTown x = town("own0 0;wall0 1;");
        bounds("n", 1, 60, n -> x.drift(1, n, 0));
        due("n 0", x.drift(1, 0, 1), BAD);
        for (int n = 1; n <= 60; n++) {
            drift("HUNG and filled by turns, " + n, x, 7, n, 1 + n % 2, n % 2);
        }
    }

    private static void driftSeed() {
        // five who are told apart by HOME, nine WALLS: each of these is where the one got is HUNG
        String text = FIVE + "wall0 1;wall0 2;wall0 3;wall0 4;wall0 5;wall0 6;wall0 7;wall0 1;wall0 2;";
        // the last two: 12345 just does not carry into bit 16, and just does
        int[] seeds = {1, -1, 2147483647, -2147483648, 123456789, 0, 375582, 501379};
        // first got: 16838, 15929, 15929, 0, 3536, 0, 6311, 25680
        int[] ones = {3, 4, 4, 0, 1, 0, 1, 0};
        int[] walls = {7, 2, 2, 0, 1, 0, 5, 6};
        for (int i = 0; i < seeds.length; i++) {
            for (int p = 0; p < 5; p++) {
                for (int w = 0; w < 9; w++) {
                    // he who is got is GONE, or the WALL got is taken: nothing more is HUNG
                    DoorTown x = town(text);
                    x.hang(p, w);
                    x.fill(w);
                    due("seed " + seeds[i] + ", GONE " + p, x.drift(seeds[i], 1, 1), p == ones[i] ? 0 : 1);
                    DoorTown y = town(text);
                    int other = (ones[i] + 1) % 5;
                    y.hang(other, w);
                    due("seed " + seeds[i] + ", taken " + w, y.drift(seeds[i], 1, 1), w == walls[i] ? 0 : 2);
                }
            }
        }
    }

    private static void driftHangs() {
        // of seed 1 are got 16838, 5758, 10113: ONES 3, 3, 3 of 5; WALLS 2104, 719, 1264: 7, 8, 4 of 9
        DoorTown x = town("own0 0;own0 0;own0 0;own0 6;own0 0;" + "wall1 2;".repeat(7) + "wall6 7;wall1 2;");
        drift("ONE 3 in WALL 7", x, 1, 1, 6, 1);
        // got modulo one is 0
        drift("the only ONE in the only WALL", town("own0 3;wall4 3;"), 1, 1, 2, 1);
        // 16838 modulo 2 is 0, 2104 modulo 3 is 1
        DoorTown y = town("own0 0;own0 5;wall1 2;wall0 4;wall5 6;");
        drift("ONE 0 in WALL 1", y, 1, 1, 3, 1);
        // 16838 modulo 4 is 2, 2104 modulo 5 is 4
        DoorTown z = town("own0 0;own0 0;own0 1;own0 0;wall0 3;wall0 3;wall0 3;wall0 3;wall1 2;");
        drift("ONE 2 in WALL 4", z, 1, 1, 5, 1);
    }

    private static void driftFills() {
        DoorTown x = town("own0 0;own0 0;own0 0;own0 0;own0 0;" + NINE);
        // 3 in 7; 3 is HUNG, 8 is empty: nothing; 3 is HUNG, 4 is empty: nothing
        drift("he can not, and there is none", x, 1, 3, 6, 1);
        DoorTown y = town("own0 0;own0 0;own0 0;own0 0;own0 0 7;" + NINE);
        drift("another's in WALL 7 is taken out", y, 1, 1, 5, 0);
        // then 3 in 8
        drift("then he HANGS", y, 1, 2, 6, 1);
        DoorTown z = town("own0 0;wall0 1;");
        drift("his own is taken out", z, 1, 2, 1, 0);
        drift("it is FREE again", z, 1, 3, 2, 1);
        z.hang(0, 0);
        z.fill(0);
        drift("one that is GONE stays so", z, 1, 1, 1, 0);
        drift("one that is GONE stays so", z, 1, 60, 1, 0);
        due("it is GONE", z.one(0, 6), 2);
    }

    private static void driftTells() {
        DoorTown x = town("gaol0 0;house0 1 0;house0 2 1;own0 6;own0 7;"
            + "wall1 2;wall2 3;wall3 4;wall0 5;wall0 6;wall0 7;wall0 7;wall6 5;wall1 2;");
        // ONE 3 HANGS his in WALL 7, beside two DOORS by which 1 and 2 come to three ROOMS each
        drift("all, summed", x, 1, 1, 1 + 3 + 3 + 2 + 1, 3);
        drift("HOMES alone", town("own0 0;own0 1;own0 2;wall5 6;"), 1, 1, 3, 1);
    }

    private static void driftBad() {
        bounds("what", 0, 1, what -> town("own0 0;wall0 1;").drift(1, 1, what));
        bounds("n", 1, 60, n -> town("own0 0;wall0 1;").drift(1, n, 1));
        due("any seed", town("own0 0;wall0 1;").drift(MIN, 1, 1), 1);
        due("any seed", town("own0 0;wall0 1;").drift(MAX, 1, 1), 1);
    }

    private static void driftState() {
        drift("nobody, no WALL", new DoorTown(), 1, 1, STATE, STATE);
        drift("nobody", town("wall0 1;"), 1, 60, STATE, STATE);
        drift("no WALL", town("own0 0;"), 1, 60, STATE, STATE);
        drift("one of each", town("own0 0;wall0 1;"), 1, 1, 2, 1);
    }
}
