/** The sentences of the text under 'Terms', each with a test of its own. */
final class TextBoundaries extends Asking {
    private static final String FIVE = TermsBoundaries.FIVE, NINE = TermsBoundaries.NINE;
    private static final String SIX = "own0 0;wall0 1;plan 0 0 0 0 0 0 0 0 0 0 0 0";

    private TextBoundaries() {
    }

    static void ask(Document d) {
        askTape(d);
        askLines(d);
        askFirstFaults(d);
        askLaterFaults(d);
        askTaken(d);
    }

    private static int taken(String text) {
        return tell(new DoorTown(), text);
    }

    // ---- THE TAPE, TOKENS

    private static void askTape(Document d) {
        d.term("THE TAPE has 160 bytes, places from 0.", TextBoundaries::bytes160);
        d.term("TOKENS, each as long as may be,", TextBoundaries::asLongAsMayBe);
        d.term("any number of blanks (32) ahead of, between, behind them", TextBoundaries::anyNumberOfBlanks);
        d.term("(one at least between two NAMES, between two NUMBERS;", TextBoundaries::oneBlankAtLeast);
        d.term("else none is needed):", TextBoundaries::noneIsNeeded);
        d.term("NAMES (a .. z), NUMBERS (1 or 2 figures), the sign ;", TextBoundaries::tokens);
        d.term("(every other byte is no TOKEN).", TextBoundaries::everyByte);
    }

    private static void bytes160() {
        String blanks = " ".repeat(153);
        due("a line at its end", taken(blanks + "own0 0;"), 1);
        due("a line at its beginning", taken("own0 0;" + blanks), 1);
        due("blanks alone", taken(" ".repeat(160)), 0);
        due("nothing", taken(""), 0);
        refused(blanks + " own0 0", 2, 160);
        refused(blanks + "own0 0?", 1, 159);
        refused(blanks + "      ;", 2, 159);
        refused("?" + blanks + "      ", 1, 0);
        DoorTown x = new DoorTown();
        due("what is more than 160 is not told", tell(x, blanks + "own0 0;own0 0;"), 1);
        due("one ONE", x.rule(0), 1);
    }

    private static void asLongAsMayBe() {
        refused("ownown 0 0;", 2, 0);
        refused("walls 0 1;", 2, 0);
        refused("own 12 0;", 3, 4);
        refused("own 1 12;", 3, 6);
        refused("own 123;", 1, 4);
        refused("room 0 1 2;", 2, 9);
        DoorTown x = town("room 0 12;");
        due("one NUMBER of two figures", x.room(0, 0), 12);
    }

    private static void anyNumberOfBlanks() {
        DoorTown x = new DoorTown();
        due("ahead of, between, behind", tell(x, "   own   1   2   3   ;   wall   4   5   ;"
            + "   wall0 1;wall0 1;wall0 1;   plan   0   2   ;   room   6   7   ;   "), 7);
        due("HOUSE", x.one(0, 1), 1);
        due("HOME", x.one(0, 2), 2);
        due("WALL", x.one(0, 3), 3);
        due("A", x.wall(0, 0), 4);
        due("the WALL of the ACT", x.act(0, 1), 2);
        due("WORTH", x.room(6, 0), 7);
        due("154 between", taken("own0" + " ".repeat(154) + "0;"), 1);
        refused("own\t0 0;", 1, 3);
        refused("own0\n0;", 1, 4);
    }

    private static void oneBlankAtLeast() {
        refused("own00;", 2, 5);
        refused("planplan;", 2, 0);
        refused("plan plan;", 2, 5);
        refused("own own 0 0;", 2, 4);
        DoorTown x = town("own0 01;wall0 1;wall0 1;");
        due("01 is one NUMBER", x.one(0, 2), 1);
        due("no WALL is told", x.one(0, 6), 0);
        DoorTown y = town("own0 0 1;wall0 1;wall0 1;");
        due("0 and 1 are two", y.one(0, 2), 0);
        due("WALL 1 is told", y.one(0, 3), 1);
    }

    private static void noneIsNeeded() {
        DoorTown x = new DoorTown();
        due("between NAME and NUMBER, around ;", tell(x, "gaol3 7 0;stranger2 6;house1 5;own0 4;wall0 1;room2 9;plan;"), 7);
        due("KIND", x.one(0, 0), 3);
        due("HUNG", x.one(0, 3), 0);
        due("HOUSE", x.one(2, 1), 1);
        due("WORTH", x.room(2, 0), 9);
    }

    private static void tokens() {
        refused("az", 2, 0);
        refused("0", 2, 0);
        refused("9", 2, 0);
        refused("99", 2, 0);
        refused("100", 1, 0);
        refused("000", 1, 0);
        refused(";", 2, 0);
        DoorTown x = town("own03 07;room00 09;room07 90;");
        due("a 0 ahead", x.one(0, 1), 3);
        due("a 0 ahead", x.one(0, 2), 7);
        due("two figures", x.room(0, 0), 9);
        due("two figures", x.room(7, 0), 90);
    }

    /** Each byte alone, and behind a line. */
    private static void everyByte() {
        for (int c = 0; c <= 127; c++) {
            boolean isToken = c >= 'a' && c <= 'z' || c >= '0' && c <= '9' || c == ';';
            if (c == ' ') {
                due("a blank alone", taken(" "), 0);
                due("a blank behind", taken("own0 0; "), 1);
            } else {
                refused(String.valueOf((char) c), isToken ? 2 : 1, 0);
                refused("own0 0; " + (char) c, isToken ? 2 : 1, 8);
            }
        }
    }

    // ---- lines

    private static void askLines(Document d) {
        d.term("text: { line }", TextBoundaries::noLineAndMany);
        d.term("line: K N N [ N ] ; | wall N N ; | room N N ; | plan { N N } ;", TextBoundaries::lineForms);
        d.term("K: own | house | stranger | gaol", TextBoundaries::kindNames);
        d.term("K: a ONE more, whose DOOR is of that KIND: HOUSE, HOME, the WALL in which it is HUNG (0 to 8), if it is told.",
            TextBoundaries::oneLine);
        d.term("wall: a WALL more: A, B.", TextBoundaries::wallLine);
        d.term("room: a ROOM, its WORTH.", TextBoundaries::roomLine);
        d.term("plan: THE PLAN: ONES (0 to 4), WALLS (0 to 8), by twos.", TextBoundaries::planLine);
    }

    private static void noLineAndMany() {
        due("none", taken(""), 0);
        due("one", taken("plan;"), 1);
        due("two", taken("plan;room0 0;"), 2);
        due("fourteen", taken(FIVE + NINE), 14);
        DoorTown x = town("room7 1;plan0 1;wall0 1;own0 0 1;wall1 2;house0 0;");
        due("in any order: ONES", x.rule(0), 2);
        due("in any order: WALLS", x.rule(1), 2);
        due("in any order: ACTS", x.rule(3), 1);
        due("in any order: WORTH", x.count(4), 1);
    }

    private static void lineForms() {
        String[] endless = {"own0 0", "own0 0 0", "wall0 1", "room0 1", "plan", "plan0 0"};
        for (String line : endless) {
            due("whole", taken(line + ";own0 0;wall0 1;") < 0 ? 0 : 1, 1);
            refused(line, 2, line.length());
            refused(line + " own", 2, line.length() + 1);
        }
        refused("own0;", 2, 4);
        refused("own;", 2, 3);
        refused("own0 0 0 0;", 2, 9);
        refused("wall0;", 2, 5);
        refused("wall0 1 2;", 2, 8);
        refused("room0;", 2, 5);
        refused("room0 1 2;", 2, 8);
        refused("plan0;", 2, 5);
        refused("plan0 0 0;", 2, 9);
        refused("plan;;", 2, 5);
    }

    private static void kindNames() {
        String[] names = {"own", "house", "stranger", "gaol"};
        for (int k = 0; k < 4; k++) {
            due(names[k], town(names[k] + "0 0;").one(0, 0), k);
            refused(names[k] + "s0 0;", 2, 0);
            refused(names[k].substring(1) + "0 0;", 2, 0);
            refused(names[k].substring(0, names[k].length() - 1) + "0 0;", 2, 0);
            eachLetterCounts(names[k]);
        }
        eachLetterCounts("wall");
        eachLetterCounts("room");
        eachLetterCounts("plan");
    }

    private static void eachLetterCounts(String name) {
        for (int i = 0; i < name.length(); i++) {
            refused(name.substring(0, i) + 'x' + name.substring(i + 1) + "0 1;", 2, 0);
        }
    }

    private static void oneLine() {
        DoorTown x = town("gaol3 7 8;own0 0 0;house1 6;" + NINE);
        due("KIND", x.one(0, 0), 3);
        due("HOUSE at its most", x.one(0, 1), 3);
        due("HOME at its most", x.one(0, 2), 7);
        due("WALL at its most", x.one(0, 3), 8);
        due("whose is in WALL 8", x.wall(8, 2), 0);
        due("HOUSE at its least", x.one(1, 1), 0);
        due("HOME at its least", x.one(1, 2), 0);
        due("WALL at its least", x.one(1, 3), 0);
        due("whose is in WALL 0", x.wall(0, 2), 1);
        due("none is told", x.one(2, 6), 0);
        due("none is told", x.one(2, 3), NONE);
        due("HUNG already", x.hang(0, 1), STATE);
    }

    private static void wallLine() {
        DoorTown x = town("wall0 7;wall7 0;");
        due("A", x.wall(0, 0), 0);
        due("B", x.wall(0, 1), 7);
        due("the other way round", x.wall(1, 0), 7);
        due("the other way round", x.wall(1, 1), 0);
        due("no DOOR", x.wall(0, 2), NONE);
    }

    private static void roomLine() {
        DoorTown x = town("room0 99;room7 0;room6 1;");
        due("ROOM 0", x.room(0, 0), 99);
        due("ROOM 7", x.room(7, 0), 0);
        due("ROOM 6", x.room(6, 0), 1);
        due("what is not told", x.room(1, 0), 0);
    }

    private static void planLine() {
        DoorTown x = town(FIVE + NINE + "plan4 8 0 0 4 0;");
        due("three ACTS", x.rule(3), 3);
        due("ONE at its most", x.act(0, 0), 4);
        due("WALL at its most", x.act(0, 1), 8);
        due("ONE at its least", x.act(1, 0), 0);
        due("WALL at its least", x.act(1, 1), 0);
        due("first the ONE", x.act(2, 0), 4);
        due("then the WALL", x.act(2, 1), 0);
        due("nobody HANGS yet", x.rule(2), 0);
        DoorTown y = town("plan;");
        due("empty", y.rule(3), 0);
        DoorTown z = town(FIVE + NINE + TermsBoundaries.SIX);
        due("six", z.rule(3), 6);
    }

    // ---- FAULTS

    private static void askFirstFaults(Document d) {
        d.term("FAULTS, the first met as it is read (a TOKEN is read when the one before has been taken):",
            TextBoundaries::theFirstMet);
        d.term("1 no TOKEN,", TextBoundaries::noToken);
        d.term("a NUMBER that is too long (its first byte).", TextBoundaries::tooLong);
        d.term("2 a TOKEN that can not stand there (a NAME that begins no line;", TextBoundaries::canNotStand);
        d.term("or the end: the length).", TextBoundaries::theEnd);
        d.term("3 a NUMBER out of its bounds", TextBoundaries::outOfBounds);
        d.term("(wall: B alike with A).", TextBoundaries::alike);
    }

    private static void theFirstMet() {
        refused("own 4 ?", 3, 4);
        refused("own ? 4", 1, 4);
        refused("own 0 8 ?", 3, 6);
        refused("own 0 0 9?", 3, 8);
        refused("own0 0 0;own0 0 0?", 4, 16);
        refused("room1 5;room1?", 4, 12);
        refused("plan;plan?", 4, 5);
        refused(FIVE + "own?", 5, 35);
        refused(FIVE + "own9 9 9;", 5, 35);
        refused(NINE + "wall?", 5, 72);
        refused(NINE + "wall1 1;", 5, 72);
        refused(SIX + " 0?", 5, 44);
        refused("zzz?", 2, 0);
        refused("own;?", 2, 3);
        refused("own0 0 0;?", 1, 9);
        refused("own0 0 0;wall1 1;", 3, 15);
        refused("own0 0 0;plan0 0;room0", 2, 22);
    }

    private static void noToken() {
        String[] ahead = {"", "own", "own 0 ", "own 0 0", "own 0 0 0", "own 0 0;", "wall", "wall 0 ", "wall 0 1", "room",
            "room 0 ", "room 0 0", "plan", "plan 0 ", "plan 0 0", "plan;", SIX};
        for (String text : ahead) {
            refused(text + "?", 1, text.length());
            refused(text + "  A0 0;", 1, text.length() + 2);
        }
    }

    private static void tooLong() {
        String[] ahead = {"", "own", "own 0 ", "own 0 0 ", "own 0 0 0 ", "own 0 0;", "wall", "wall 0 ", "wall 0 1 ", "room",
            "room 0 ", "room 0 0 ", "plan", "plan 0 ", "plan 0 0 ", "plan;", SIX + " "};
        for (String text : ahead) {
            refused(text + "000", 1, text.length());
            refused(text + " 100;", 1, text.length() + 1);
            refused(text + "0000000001;", 1, text.length());
        }
        refused("9".repeat(160), 1, 0);
        due("two figures are not too long", taken("room07 99;"), 1);
    }

    private static void canNotStand() {
        refused("door0 0;", 2, 0);
        refused("own0 0;door0 0;", 2, 7);
        refused("own0 0;  x", 2, 9);
        refused("0", 2, 0);
        refused("own0 0;0 0;", 2, 7);
        refused(";", 2, 0);
        refused("own0 0;;", 2, 7);
        refused("own own", 2, 4);
        refused("own0 own", 2, 5);
        refused("own0 0 own", 2, 7);
        refused("own0 0 0 own", 2, 9);
        refused("own0 0 0 0", 2, 9);
        refused("wall own", 2, 5);
        refused("wall0 own", 2, 6);
        refused("wall0 1 own", 2, 8);
        refused("wall0 1 0", 2, 8);
        refused("room own", 2, 5);
        refused("room0 own", 2, 6);
        refused("room0 1 own", 2, 8);
        refused("room0 1 0", 2, 8);
        refused("plan plan", 2, 5);
        refused("plan0 own", 2, 6);
        refused("plan0;", 2, 5);
        refused("plan0 0 own", 2, 8);
        refused(SIX + " own", 2, 44);
        refused(SIX + " plan;", 2, 44);
    }

    private static void theEnd() {
        String[] ahead = {"own", "own 0", "own 0 0", "own 0 0 0", "wall", "wall 0", "wall 0 1", "room", "room 0",
            "room 0 0", "plan", "plan 0", "plan 0 0", SIX};
        for (String text : ahead) {
            refused(text, 2, text.length());
            refused(text + "   ", 2, text.length() + 3);
        }
    }

    private static void outOfBounds() {
        due("all at their most", taken("own 3 7 8;plan 4 8;room 7 99;own 0 0;own 0 0;own 0 0;own 0 0;"
            + "wall 0 7;wall 7 0;" + NINE.substring(16)), 16);
        String[] ahead = {"own ", "own 0 ", "own 0 0 ", "wall ", "wall 0 ", "room ", "plan ", "plan 0 "};
        int[] most = {3, 7, 8, 7, 7, 7, 4, 8};
        for (int i = 0; i < ahead.length; i++) {
            refused(ahead[i] + (most[i] + 1) + ";", 3, ahead[i].length());
            refused(ahead[i] + "99;", 3, ahead[i].length());
        }
        refused("room 0 100;", 1, 7);
        refused("plan 0 0 5 0;", 3, 9);
        refused("plan 0 0 0 9;", 3, 11);
    }

    private static void alike() {
        for (int r = 0; r < 8; r++) {
            refused("wall " + r + " " + r + ";", 3, 7);
            refused("wall 0" + r + " " + r + ";", 3, 8);
        }
        refused("wall 1 1 1", 3, 7);
        refused("wall 8 8;", 3, 5);
    }

    private static void askLaterFaults(Document d) {
        d.term("4 plan for the second time (its NAME);", TextBoundaries::secondPlan);
        d.term("a WALL in which a DOOR is HUNG already,", TextBoundaries::hungAlready);
        d.term("a ROOM that is told already (it).", TextBoundaries::toldAlready);
        d.term("5 the 6th ONE, the 10th wall (its NAME);", TextBoundaries::tooMany);
        d.term("a 7th ACT (its first NUMBER, whether it is one or not).", TextBoundaries::seventhAct);
        d.term("Behind all (the length): 6 a ONE, a WALL that there is not.", TextBoundaries::behindAll);
    }

    private static void secondPlan() {
        refused("plan;plan;", 4, 5);
        refused("plan; plan 9", 4, 6);
        refused("plan;room0 1;plan", 4, 13);
        refused(SIX + ";plan 0 0;", 4, 44);
        DoorTown x = new DoorTown();
        due("one alone", tell(x, "plan;room0 1;"), 2);
        due("one in each text", tell(x, "plan;"), 1);
        due("a second", tell(x, "plan;plan;"), -15);
        due("one in each text", tell(x, "plan;"), 1);
    }

    private static void hungAlready() {
        refused("own0 0 0;own0 0 0;wall0 1;", 4, 16);
        refused("own0 0 8;own0 0;own0 0 8;" + NINE, 4, 23);
        refused("own0 0 1;own0 0 01;wall0 1;wall0 1;", 4, 16);
        DoorTown x = new DoorTown();
        due("one in each", tell(x, "own0 0 0;own0 0 1;wall0 1;wall0 1;"), 4);
        due("again in another text", tell(x, "own0 0 0;wall0 1;"), 2);
        due("twice", tell(x, "own0 0 0;own0 0 0;"), -26);
        due("again in another text", tell(x, "own0 0 0;wall0 1;"), 2);
    }

    private static void toldAlready() {
        refused("room0 5;room0 5;", 4, 12);
        refused("room7 0;room6 0;room7 0;", 4, 20);
        refused("room1 5;room 01 9", 4, 13);
        refused("room0 0;room1 0;room2 0;room3 0;room4 0;room5 0;room6 0;room7 0;room3 0;", 4, 68);
        DoorTown x = new DoorTown();
        String each = "room0 5;room1 5;room2 5;room3 5;room4 5;room5 5;room6 5;room7 5;";
        due("each once", tell(x, each), 8);
        due("again in another text", tell(x, each), 8);
        due("twice", tell(x, "room0 5;room0 5;"), -22);
        due("again in another text", tell(x, each), 8);
    }

    private static void tooMany() {
        due("five ONES", taken(FIVE), 5);
        String[] kinds = {"own", "house", "stranger", "gaol"};
        for (String kind : kinds) {
            refused(FIVE + kind + "0 0;", 5, 35);
            refused(FIVE + "  " + kind, 5, 37);
        }
        due("nine walls", taken(NINE), 9);
        refused(NINE + "wall0 1;", 5, 72);
        refused(NINE + "  wall", 5, 74);
    }

    private static void seventhAct() {
        due("six ACTS", taken(SIX + ";"), 3);
        refused(SIX + " 0 0;", 5, 44);
        refused(SIX + " 4 0;", 5, 44);
        refused(SIX + " 5 0;", 5, 44);
        refused(SIX + " 99;", 5, 44);
        refused(SIX + "   0;", 5, 46);
        refused(SIX + " 0", 5, 44);
    }

    private static void behindAll() {
        refused("own0 0 0;", 6, 9);
        refused("own0 0 0;  ", 6, 11);
        refused("own0 0 1;wall0 1;", 6, 17);
        refused("own0 0 8;" + NINE.substring(8), 6, 73);
        refused("plan0 0;wall0 1;", 6, 16);
        refused("plan0 0;own0 0;", 6, 15);
        refused("plan1 0;own0 0;wall0 1;", 6, 23);
        refused("plan0 1;own0 0;wall0 1;", 6, 23);
        refused("plan0 0 0 0 0 0 0 0 0 0 4 0;own0 0;own0 0;own0 0;own0 0;wall0 1;", 6, 64);
        due("behind all there are", taken("plan0 0;own0 0 0;wall0 1;"), 3);
        due("the last of each", taken("plan4 8;own0 0 8;own0 0;own0 0;own0 0;own0 0;" + NINE), 15);
    }

    // ---- a text that is taken

    private static void askTaken(Document d) {
        d.term("A text that is taken tells all, in place of what there was (what no line tells is as at first);",
            TextBoundaries::asAtFirst);
        d.term("nothing is SEEN;", TextBoundaries::nothingIsSeen);
        d.term("IMAGES are gone;", TextBoundaries::imagesAreGone);
        d.term("SHEETS stay.", TextBoundaries::sheetsStay);
    }

    private static void asAtFirst() {
        DoorTown x = town("own0 0 0;own0 0 1;" + NINE + "room0 9;room7 9;plan0 0;");
        x.fill(0);
        due("taken", tell(x, "own0 0;wall0 1;"), 2);
        due("ONES", x.rule(0), 1);
        due("WALLS", x.rule(1), 1);
        due("HUNG", x.rule(2), 0);
        due("ACTS", x.rule(3), 0);
        due("FREE", x.rule(4), 1);
        due("WORTH", x.count(4), 0);
        due("GONE", x.count(5), 0);
        due("no DOOR in the WALL", x.wall(0, 2), NONE);
        due("a WALL more has none", x.build(0, 1), 2);
        due("a WALL more has none", x.wall(1, 2), NONE);
        due("nothing is told", tell(x, ""), 0);
        due("no ONE", x.one(0, 0), BAD);
        due("no WALL", x.wall(0, 0), BAD);
    }

    private static void nothingIsSeen() {
        DoorTown x = town("own0 0;wall0 1;");
        for (int i = 0; i < 6; i++) {
            x.see(0, 7, true);
        }
        due("it could not be", x.kinds(0), 0);
        due("refused", tell(x, "?"), -10);
        due("SEEN stays", x.count(0), 6);
        due("taken", tell(x, "own0 0;wall0 1;"), 2);
        due("SEEN", x.count(0), 0);
        due("all may be", x.kinds(0), 15);
        due("from the first", x.see(0, 0, true), 1);
    }

    private static void imagesAreGone() {
        DoorTown x = town("own0 0;wall0 1;");
        x.keep(0);
        x.keep(1);
        due("refused", tell(x, "?"), -10);
        due("IMAGES stay", x.count(1), 2);
        due("taken", tell(x, ""), 0);
        due("IMAGES", x.count(1), 0);
        due("IMAGE 0", x.back(0), STATE);
        due("IMAGE 1", x.back(1), STATE);
        due("none was there", x.keep(0), 0);
    }

    private static void sheetsStay() {
        DoorTown x = new DoorTown();
        for (int k = 0; k < 3; k++) {
            x.sheet(k, k, 2 + k);
            x.lay(k, 1, 1);
        }
        due("taken", tell(x, "own0 0;wall0 1;wall0 1;"), 3);
        due("CELLS of SHEET 0", x.count(3), 2);
        due("nothing stays nothing", x.lay(3, 0, 0), -11);
        due("what was laid", x.read(2, 2, 0, 1), 1);
        due("ONE 0 in WALL 1", x.one(0, 3), 1);
        due("taken", tell(x, "own0 0;wall0 1;wall0 1;"), 3);
        due("what was laid", x.read(1, 1, 0, 1), 1);
        due("ONE 0 in WALL 1", x.one(0, 3), 1);
    }
}
