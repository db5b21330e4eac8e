import java.util.ArrayList;
import java.util.List;
import java.util.function.Supplier;
import java.util.function.ToLongFunction;

/**
 * What is refused, or only asked, changes nothing: of two objects that are made alike one is called,
 * and whatever can be seen of both thereafter is compared.
 */
final class Refusals extends Asking {
    private Refusals() {
    }

    static void ask() {
        askBad();
        askState();
        askFull();
        askText();
        askFaults();
        askWithoutChange();
        askOfNobody();
    }

    /** ONES 0, 1 are HUNG, 2 and 3 FREE, 4 GONE; something of all that there may be. */
    private static DoorTown rich() {
        DoorTown x = town("own0 0 0;house1 1 1;stranger1 2;gaol2 3;own3 7 2;wall0 1;wall1 2;wall2 3;wall3 4;wall4 7;"
            + "room1 50;room4 9;plan2 3 3 4 0 1;");
        x.keep(1);
        x.fill(2);
        x.keep(0);
        x.price(7, 3);
        x.see(0, 1, true);
        x.see(1, 7, false);
        for (int k = 0; k < 3; k++) {
            x.sheet(k, k, 6);
            x.lay(k, 0, 2);
            x.lay(k, 1, 3);
            x.lay(k, 2, 3);
            x.lay(k, 3, 4 - k);
            x.lay(k, 5, 3);
        }
        x.read(0, 1, 0, 1);
        tell(x, "?");
        for (char c : "own1 6;wall0 1;".toCharArray()) {
            x.feed(c);
        }
        return x;
    }

    /** As much of all as there may be. */
    private static DoorTown full() {
        DoorTown x = town(TermsBoundaries.FIVE + TermsBoundaries.NINE + TermsBoundaries.SIX);
        for (int i = 0; i < 6; i++) {
            x.see(0, i, i == 0);
        }
        for (int i = 0; i < 160; i++) {
            x.feed(i < 153 ? ' ' : "own0 0;".charAt(i - 153));
        }
        return x;
    }

    private static List<Long> look(DoorTown x) {
        List<Long> all = new ArrayList<>();
        all.add((long) x.fault());
        all.add((long) x.torn());
        for (int what = 0; what < 6; what++) {
            all.add((long) x.rule(what));
            all.add((long) x.count(what));
        }
        for (int p = 0; p < 5; p++) {
            for (int what = 0; what < 7; what++) {
                all.add((long) x.one(p, what));
            }
        }
        for (int w = 0; w < 9; w++) {
            all.add((long) x.wall(w, 0) * 100 + x.wall(w, 1));
            all.add((long) x.wall(w, 2));
        }
        for (int r = 0; r < 8; r++) {
            all.add((long) x.room(r, 0));
        }
        for (int i = 0; i < 6; i++) {
            all.add((long) x.act(i, 0) * 100 + x.act(i, 1));
        }
        return all;
    }

    /** Also what can only be seen by changing it: SEEN, SHEETS, IMAGES, THE TAPE. */
    private static List<Long> lookThrough(DoorTown x) {
        List<Long> all = look(x);
        for (int p = 0; p < 5; p++) {
            all.add((long) x.kinds(p) * 1000 + x.walls(p));
        }
        for (int k = 0; k < 4; k++) {
            for (int f = 0; f <= 4; f += 2) {
                all.add((long) x.read(k, k % 3, f, 1));
            }
            all.add((long) x.torn());
            all.add((long) x.rule(4) * 1000 + x.rule(5));
            x.back(0);
        }
        for (int n = 6; n >= 0; n--) {
            all.add((long) x.forget(n));
            all.add((long) x.kinds(0) * 1000 + x.kinds(1));
        }
        for (int k = 1; k >= 0; k--) {
            all.add((long) x.back(k));
            all.add((long) x.rule(4) * 10000 + x.count(5) * 1000 + x.count(4));
        }
        all.add((long) x.text());
        all.add((long) x.fault());
        all.add((long) x.rule(0) * 100 + x.rule(1));
        return all;
    }

    private static void leaves(String what, Supplier<DoorTown> made, ToLongFunction<DoorTown> call, long want) {
        DoorTown x = made.get();
        due(what, call.applyAsLong(x), want);
        due(what + " changes nothing", lookThrough(x).equals(lookThrough(made.get())) ? 1 : 0, 1);
    }

    private static void bad(String what, ToLongFunction<DoorTown> call) {
        leaves(what, Refusals::rich, call, BAD);
    }

    private static void askBad() {
        bad("feed(-1)", x -> x.feed(-1));
        bad("feed(128)", x -> x.feed(128));
        bad("end(16)", x -> x.end(16));
        bad("end(-1)", x -> x.end(-1));
        bad("alter(5, 0, 0)", x -> x.alter(5, 0, 0));
        bad("alter(0, 3, 1)", x -> x.alter(0, 3, 1));
        bad("alter(0, 0, 4)", x -> x.alter(0, 0, 4));
        bad("alter(0, 1, 4)", x -> x.alter(0, 1, 4));
        bad("alter(0, 2, 8)", x -> x.alter(0, 2, 8));
        bad("alter(0, 2, -1)", x -> x.alter(0, 2, -1));
        bad("price(8, 1)", x -> x.price(8, 1));
        bad("price(0, 100)", x -> x.price(0, 100));
        bad("price(0, -1)", x -> x.price(0, -1));
        bad("build(1, 1)", x -> x.build(1, 1));
        bad("build(0, 8)", x -> x.build(0, 8));
        bad("build(-1, 0)", x -> x.build(-1, 0));
        bad("plan(5, 0)", x -> x.plan(5, 0));
        bad("plan(0, 5)", x -> x.plan(0, 5));
        bad("cut(4)", x -> x.cut(4));
        bad("cut(-1)", x -> x.cut(-1));
        bad("hang(5, 3)", x -> x.hang(5, 3));
        bad("hang(2, 5)", x -> x.hang(2, 5));
        bad("fill(5)", x -> x.fill(5));
        bad("fill(-1)", x -> x.fill(-1));
        bad("see(5, 0, true)", x -> x.see(5, 0, true));
        bad("see(0, 8, true)", x -> x.see(0, 8, true));
        bad("forget(3)", x -> x.forget(3));
        bad("forget(-1)", x -> x.forget(-1));
        bad("keep(2)", x -> x.keep(2));
        bad("back(2)", x -> x.back(2));
        bad("sheet(4, 0, 1)", x -> x.sheet(4, 0, 1));
        bad("sheet(0, 3, 1)", x -> x.sheet(0, 3, 1));
        bad("sheet(0, 0, 41)", x -> x.sheet(0, 0, 41));
        bad("lay(4, 0, 1)", x -> x.lay(4, 0, 1));
        bad("read(4, 0, 0, 1)", x -> x.read(4, 0, 0, 1));
        bad("read(0, 3, 0, 1)", x -> x.read(0, 3, 0, 1));
        bad("read(0, 0, 0, 21)", x -> x.read(0, 0, 0, 21));
        bad("read(0, 0, 0, -1)", x -> x.read(0, 0, 0, -1));
        bad("drift(1, 61, 0)", x -> x.drift(1, 61, 0));
    }

    private static void askState() {
        leaves("hang(0, 3): HUNG", Refusals::rich, x -> x.hang(0, 3), STATE);
        leaves("hang(4, 3): GONE", Refusals::rich, x -> x.hang(4, 3), STATE);
        leaves("hang(2, 0): there is one", Refusals::rich, x -> x.hang(2, 0), STATE);
        leaves("fill(2): GONE", Refusals::rich, x -> x.fill(2), STATE);
        leaves("fill(3): there is none", Refusals::rich, x -> x.fill(3), STATE);
        leaves("back(0): there is none", Refusals::full, x -> x.back(0), STATE);
        leaves("best(0, 1, 0): HUNG", Refusals::rich, x -> x.best(0, 1, 0), STATE);
        leaves("gain(4, 0): GONE", Refusals::rich, x -> x.gain(4, 0), STATE);
        leaves("shut(0, 0, 0): HOME", Refusals::rich, x -> x.shut(0, 0, 0), STATE);
    }

    private static void askFull() {
        leaves("feed(59)", Refusals::full, x -> x.feed(59), FULL);
        leaves("build(0, 7)", Refusals::full, x -> x.build(0, 7), FULL);
        leaves("plan(4, 8)", Refusals::full, x -> x.plan(4, 8), FULL);
        leaves("see(0, 7, true)", Refusals::full, x -> x.see(0, 7, true), FULL);
    }

    /** THE TAPE alone is empty then; the FAULT that is told is this text's, 1 as it was. */
    private static void askText() {
        DoorTown x = rich();
        x.feed('?');
        due("a text with a FAULT", x.text(), -25);
        DoorTown y = rich();
        y.end(0);
        due("changes nothing but THE TAPE", lookThrough(x).equals(lookThrough(y)) ? 1 : 0, 1);
        DoorTown z = full();
        z.end(159);
        due("a text that is not whole", z.text(), -169);
        due("its FAULT", z.fault(), 2);
        due("its TAPE", z.count(2), 0);
        List<Long> now = look(z);
        List<Long> ahead = look(full());
        ahead.set(0, 2L);
        ahead.set(7, 0L);
        due("changes nothing else", now.equals(ahead) ? 1 : 0, 1);
    }

    private static void askFaults() {
        leaves("sheet(0, 0, -1)", Refusals::rich, x -> x.sheet(0, 0, -1), -14);
        leaves("sheet(3, 0, -1)", Refusals::rich, x -> x.sheet(3, 0, -1), -14);
        leaves("lay(3, 0, 1)", Refusals::rich, x -> x.lay(3, 0, 1), -11);
        leaves("lay(0, 6, 1)", Refusals::rich, x -> x.lay(0, 6, 1), -12);
        leaves("lay(0, -1, 1)", Refusals::rich, x -> x.lay(0, -1, 1), -12);
        leaves("read(1, 1, 4, 1): HUNG", Refusals::rich, x -> x.read(1, 1, 4, 1), -20);
        leaves("read(1, 1, 0, 2): both in one WALL", Refusals::rich, x -> x.read(1, 1, 0, 2), -21);
        // it answers 0, so it is not refused; its FAULT is as the one ahead
        leaves("read(0, 2, 0, 1): CAST", Refusals::rich, x -> x.read(0, 2, 0, 1), 0);
    }

    private static void asks(String what, ToLongFunction<DoorTown> call, long want) {
        leaves(what, Refusals::rich, call, want);
    }

    /** What is asked only. ONE 0 is in WALL 0 (0-1), 1 in WALL 1 (1-2); 2 and 3 are FREE at 2 and 3. */
    private static void askWithoutChange() {
        asks("steps", x -> x.steps(1, 2), 1);
        asks("way", x -> x.way(1, 2, 0), 1);
        asks("meet", x -> x.meet(1, 2), 6);
        asks("runs(0)", x -> x.runs(0), 2);
        asks("runs(1)", x -> x.runs(1), 2);
        asks("runs(2)", x -> x.runs(2), 2 + 2 + 2 + 2 + 3);
        asks("runs(3)", x -> x.runs(3), 4);
        asks("ahead", x -> x.ahead(0), 3);
        asks("best", x -> x.best(2, 3, 0), NONE);
        asks("best", x -> x.best(2, 1, 0), 2);
        asks("friend", x -> x.friend(1, 3, 0), 32);
        asks("gain", x -> x.gain(2, 0), NONE);
        asks("shut", x -> x.shut(1, 2, 1), 2);
        asks("leave", x -> x.leave(0), NONE);
        asks("kindly", x -> x.kindly(1, 0), 1);
        asks("dear", x -> x.dear(0, 1), 50);
        asks("luck", x -> x.luck(5, 0, 1, 1), 2);
        asks("mean", x -> x.mean(5, 0, 0), 3);
        asks("kinds", x -> x.kinds(0), 3);
        asks("walls", x -> x.walls(0), 1);
        asks("ask", x -> x.ask(3, 0), 13);
        asks("drift", x -> x.drift(1, 60, 1) < 0 ? 0 : 1, 1);
        asks("room", x -> x.room(1, 1), 7);
        asks("wall", x -> x.wall(0, 3), 1);
        asks("forget all but all", x -> x.forget(2), 2);
        asks("end with all", x -> x.end(15), 15);
        asks("cut at all", x -> x.cut(3), 3);
        asks("alter to what it is", x -> x.alter(3, 2, 3), 3);
        asks("price as it is", x -> x.price(1, 50), 50);
    }

    private static void ofNobody(String what, ToLongFunction<DoorTown> call, long want) {
        leaves(what + " of nobody", DoorTown::new, call, want);
    }

    private static void askOfNobody() {
        ofNobody("alter", x -> x.alter(0, 0, 0), BAD);
        ofNobody("plan", x -> x.plan(0, 0), BAD);
        ofNobody("hang", x -> x.hang(0, 0), BAD);
        ofNobody("fill", x -> x.fill(0), BAD);
        ofNobody("see", x -> x.see(0, 0, true), BAD);
        ofNobody("end", x -> x.end(1), BAD);
        ofNobody("cut", x -> x.cut(1), BAD);
        ofNobody("forget", x -> x.forget(1), BAD);
        ofNobody("back", x -> x.back(0), STATE);
        ofNobody("drift", x -> x.drift(1, 1, 0), STATE);
        ofNobody("runs", x -> x.runs(2), 0);
        ofNobody("leave", x -> x.leave(0), NONE);
        ofNobody("lay", x -> x.lay(0, 0, 0), -11);
        ofNobody("read of none", x -> x.read(0, 0, 0, 0), 0);
    }
}
