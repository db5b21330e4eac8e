import java.util.function.IntToLongFunction;

/** What the tests share: answers that are due, texts told letter by letter, numbers out of their bounds. */
abstract class Asking {
    static final int BAD = -1, STATE = -2, FULL = -3, NONE = -4;
    static final int MIN = Integer.MIN_VALUE, MAX = Integer.MAX_VALUE;

    static int asked = 0;
    static int wrong = 0;
    /** What is told ahead of a wrong answer: the sentence that is asked. */
    static String about = "";

    static void due(String what, long got, long want) {
        asked++;
        if (got != want) {
            wrong++;
            System.out.println(about + what + " answered " + got + ", due is " + want);
        }
    }

    static int tell(DoorTown x, String text) {
        for (int i = 0; i < text.length(); i++) {
            x.feed(text.charAt(i));
        }
        return x.text();
    }

    /** A town of a text that is to be taken. */
    static DoorTown town(String text) {
        DoorTown x = new DoorTown();
        due("text of " + text, tell(x, text) < 0 ? 0 : 1, 1);
        return x;
    }

    static void refused(String text, int fault, int place) {
        DoorTown x = new DoorTown();
        due("text " + text, tell(x, text), -10 - place);
        due("fault of " + text, x.fault(), fault);
        due("nothing by " + text, x.rule(0) + x.rule(1) + x.rule(3) + x.count(4), 0);
    }

    /** A number that may be low to high: BAD just outside and far out, and not BAD at both ends. */
    static void bounds(String what, int low, int high, IntToLongFunction call) {
        due(what + " below", call.applyAsLong(low - 1), BAD);
        due(what + " above", call.applyAsLong(high + 1), BAD);
        due(what + " far below", call.applyAsLong(MIN), BAD);
        due(what + " far above", call.applyAsLong(MAX), BAD);
        due(what + " at its least", call.applyAsLong(low) == BAD ? 1 : 0, 0);
        due(what + " at its most", call.applyAsLong(high) == BAD ? 1 : 0, 0);
    }

    /** A number of which none may be: there is nothing that it could name. */
    static void never(String what, IntToLongFunction call) {
        int[] tries = {0, -1, 1, MIN, MAX};
        for (int v : tries) {
            due(what + " " + v, call.applyAsLong(v), BAD);
        }
    }

    static void finish() {
        System.out.println(asked + " answers asked, " + wrong + " wrong");
        if (wrong != 0) {
            System.exit(1);
        }
    }
}
