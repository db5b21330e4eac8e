import java.math.BigInteger;
import java.util.ArrayList;
import java.util.Arrays;
import java.util.HashSet;
import java.util.List;
import java.util.Set;
import java.util.TreeSet;

/** The document told again in another, slower way (sets, lists, recursion), for ModelTest. */
public final class Model {
    static final int BAD = -1, STATE = -2, FULL = -3, NONE = -4;
    static final List<String> KINDS = List.of("own", "house", "stranger", "gaol");

    static final class One {
        int kind, house, home;
        Integer wall;
        boolean gone;

        One copy() {
            One o = new One();
            o.kind = kind;
            o.house = house;
            o.home = home;
            o.wall = wall;
            o.gone = gone;
            return o;
        }

        boolean free() {
            return wall == null && !gone;
        }
    }

    static final class State {
        List<One> people = new ArrayList<>();
        List<int[]> walls = new ArrayList<>();
        List<int[]> plan = new ArrayList<>();
        int[] worth = new int[8];

        State copy() {
            State s = new State();
            for (One o : people) {
                s.people.add(o.copy());
            }
            s.walls.addAll(walls);
            s.plan.addAll(plan);
            s.worth = worth.clone();
            return s;
        }

        Integer ownerAt(int w) {
            for (int p = 0; p < people.size(); p++) {
                if (people.get(p).wall != null && people.get(p).wall == w) {
                    return p;
                }
            }
            return null;
        }

        boolean lets(int o, int p) {
            One x = people.get(o);
            boolean family = x.house == people.get(p).house;
            return List.of(o == p, family, !family, o != p).get(x.kind);
        }

        boolean passes(int p, int w) {
            return ownerAt(w) != null && lets(ownerAt(w), p);
        }

        boolean hang(int p, int w) {
            if (p < 0 || p >= people.size() || w < 0 || w >= walls.size()) {
                return false;
            }
            if (!people.get(p).free() || ownerAt(w) != null) {
                return false;
            }
            people.get(p).wall = w;
            return true;
        }

        /** All ways without a ROOM twice, by recursion. */
        void explore(int p, int here, List<Integer> way, Set<Integer> visited, List<List<Integer>> ways,
                List<Integer> ends, Set<Integer> jammed) {
            ways.add(new ArrayList<>(way));
            ends.add(here);
            for (int w = 0; w < walls.size(); w++) {
                int[] ab = walls.get(w);
                if (!passes(p, w) || jammed.contains(w) || (ab[0] != here && ab[1] != here)) {
                    continue;
                }
                int other = ab[0] + ab[1] - here;
                if (visited.add(other)) {
                    way.add(w);
                    explore(p, other, way, visited, ways, ends, jammed);
                    way.remove(way.size() - 1);
                    visited.remove(other);
                }
            }
        }

        Set<Integer> rooms(int p, Set<Integer> jammed) {
            List<Integer> ends = new ArrayList<>();
            int home = people.get(p).home;
            explore(p, home, new ArrayList<>(), new HashSet<>(List.of(home)), new ArrayList<>(), ends, jammed);
            return new TreeSet<>(ends);
        }

        Set<Integer> rooms(int p) {
            return rooms(p, Set.of());
        }

        List<Integer> bestWay(int p, int r) {
            List<List<Integer>> ways = new ArrayList<>();
            List<Integer> ends = new ArrayList<>();
            int home = people.get(p).home;
            explore(p, home, new ArrayList<>(), new HashSet<>(List.of(home)), ways, ends, Set.of());
            List<Integer> best = null;
            for (int i = 0; i < ways.size(); i++) {
                List<Integer> way = ways.get(i);
                if (ends.get(i) == r && (best == null || before(way, best))) {
                    best = way;
                }
            }
            return best;
        }

        static boolean before(List<Integer> a, List<Integer> b) {
            if (a.size() != b.size()) {
                return a.size() < b.size();
            }
            for (int i = 0; i < a.size(); i++) {
                if (!a.get(i).equals(b.get(i))) {
                    return a.get(i) < b.get(i);
                }
            }
            return false;
        }

        int gain(int p) {
            int sum = 0;
            for (int r : rooms(p)) {
                sum += r == people.get(p).home ? 0 : worth[r];
            }
            return sum;
        }

        int all() {
            int sum = 0;
            for (int p = 0; p < people.size(); p++) {
                sum += rooms(p).size();
            }
            return sum;
        }

        int hung() {
            return hungWalls().size();
        }

        List<Integer> hungWalls() {
            List<Integer> hung = new ArrayList<>();
            for (int w = 0; w < walls.size(); w++) {
                if (ownerAt(w) != null) {
                    hung.add(w);
                }
            }
            return hung;
        }
    }

    static final class Fault extends RuntimeException {
        private static final long serialVersionUID = 1L;
        final int number, place;

        Fault(int number, int place) {
            this.number = number;
            this.place = place;
        }
    }

    State s = new State();
    List<int[]> seen = new ArrayList<>();
    StringBuilder tape = new StringBuilder();
    State[] images = new State[2];
    Object[] sheets = new Object[4];
    int fault, torn;

    boolean one(int p) {
        return p >= 0 && p < s.people.size();
    }

    boolean isWall(int w) {
        return w >= 0 && w < s.walls.size();
    }

    static boolean in(int v, int low, int high) {
        return low <= v && v <= high;
    }

    static int bits(Iterable<Integer> all) {
        int b = 0;
        for (int i : all) {
            b |= 1 << i;
        }
        return b;
    }

    public int feed(int c) {
        if (!in(c, 0, 127)) {
            return BAD;
        }
        if (tape.length() == 160) {
            return FULL;
        }
        tape.append((char) c);
        return tape.length();
    }

    public int end(int n) {
        int had = tape.length();
        if (!in(n, 0, had)) {
            return BAD;
        }
        tape.setLength(n);
        return had;
    }

    /** One TOKEN at a time; its first sign tells what it is, none is the end. */
    private final class Tokens {
        final String all = tape.toString();
        int from, to;
        String token;

        boolean next() {
            from = to;
            while (from < all.length() && all.charAt(from) == ' ') {
                from++;
            }
            String rest = all.substring(from);
            token = rest.replaceFirst("(?s)^([a-z]+|[0-9]+|;|).*", "$1");
            if (token.isEmpty() && !rest.isEmpty() || token.matches("[0-9]{3,}")) {
                throw new Fault(1, from);
            }
            to = from + token.length();
            return !token.isEmpty();
        }

        int number(int most) {
            next();
            return numberHere(most);
        }

        int numberHere(int most) {
            if (!token.matches("[0-9]+")) {
                throw new Fault(2, from);
            }
            if (Integer.parseInt(token) > most) {
                throw new Fault(3, from);
            }
            return Integer.parseInt(token);
        }

        void sign() {
            if (!token.equals(";")) {
                throw new Fault(2, from);
            }
        }
    }

    private int parse(State to) {
        Tokens t = new Tokens();
        Set<Integer> told = new HashSet<>();
        boolean planned = false;
        int lines = 0;
        for (; t.next(); lines++) {
            int kind = KINDS.indexOf(t.token);
            if (kind >= 0) {
                parseOne(to, t, kind);
            } else if (t.token.equals("wall")) {
                if (to.walls.size() == 9) {
                    throw new Fault(5, t.from);
                }
                int a = t.number(7);
                int b = t.number(7);
                if (a == b) {
                    throw new Fault(3, t.from);
                }
                t.next();
                t.sign();
                to.walls.add(new int[] {a, b});
            } else if (t.token.equals("room")) {
                int r = t.number(7);
                if (!told.add(r)) {
                    throw new Fault(4, t.from);
                }
                to.worth[r] = t.number(99);
                t.next();
                t.sign();
            } else if (t.token.equals("plan")) {
                if (planned) {
                    throw new Fault(4, t.from);
                }
                planned = true;
                parsePlan(to, t);
            } else {
                throw new Fault(2, t.from);
            }
        }
        for (One o : to.people) {
            if (o.wall != null && o.wall >= to.walls.size()) {
                throw new Fault(6, tape.length());
            }
        }
        for (int[] act : to.plan) {
            if (act[0] >= to.people.size() || act[1] >= to.walls.size()) {
                throw new Fault(6, tape.length());
            }
        }
        return lines;
    }

    private static void parseOne(State to, Tokens t, int kind) {
        if (to.people.size() == 5) {
            throw new Fault(5, t.from);
        }
        One o = new One();
        o.kind = kind;
        o.house = t.number(3);
        o.home = t.number(7);
        if (t.next() && t.token.matches("[0-9]+")) {
            int w = t.numberHere(8);
            if (to.ownerAt(w) != null) {
                throw new Fault(4, t.from);
            }
            o.wall = w;
            t.next();
        }
        t.sign();
        to.people.add(o);
    }

    private static void parsePlan(State to, Tokens t) {
        for (t.next(); !t.token.equals(";"); t.next()) {
            if (to.plan.size() == 6 && t.token.matches("[0-9]+")) {
                throw new Fault(5, t.from);
            }
            int p = t.numberHere(4);
            to.plan.add(new int[] {p, t.number(8)});
        }
    }

    public int text() {
        State to = new State();
        try {
            int lines = parse(to);
            s = to;
            seen.clear();
            images = new State[2];
            fault = 0;
            return lines;
        } catch (Fault f) {
            fault = f.number;
            return -10 - f.place;
        } finally {
            tape.setLength(0);
        }
    }

    public int fault() {
        return fault;
    }

    public int rule(int what) {
        List<Integer> free = new ArrayList<>();
        Set<Integer> nobody = new TreeSet<>(List.of(0, 1, 2, 3, 4, 5, 6, 7));
        for (int p = 0; p < s.people.size(); p++) {
            if (s.people.get(p).free()) {
                free.add(p);
            }
            nobody.removeAll(s.rooms(p));
        }
        int[] answers = {s.people.size(), s.walls.size(), s.hung(), s.plan.size(), bits(free), bits(nobody)};
        return in(what, 0, 5) ? answers[what] : BAD;
    }

    public int one(int p, int what) {
        if (!one(p) || !in(what, 0, 6)) {
            return BAD;
        }
        One o = s.people.get(p);
        return new int[] {o.kind, o.house, o.home, o.wall == null ? NONE : o.wall, bits(s.rooms(p)), s.gain(p),
            o.free() ? 0 : o.gone ? 2 : 1}[what];
    }

    public int wall(int w, int what) {
        if (!isWall(w) || !in(what, 0, 3)) {
            return BAD;
        }
        List<Integer> let = new ArrayList<>();
        for (int p = 0; p < s.people.size(); p++) {
            if (s.passes(p, w)) {
                let.add(p);
            }
        }
        Integer o = s.ownerAt(w);
        return new int[] {s.walls.get(w)[0], s.walls.get(w)[1], o == null ? NONE : o, bits(let)}[what];
    }

    public int room(int r, int what) {
        if (!in(r, 0, 7) || !in(what, 0, 1)) {
            return BAD;
        }
        List<Integer> who = new ArrayList<>();
        for (int p = 0; p < s.people.size(); p++) {
            if (s.rooms(p).contains(r)) {
                who.add(p);
            }
        }
        return what == 0 ? s.worth[r] : bits(who);
    }

    public int act(int i, int what) {
        return in(i, 0, s.plan.size() - 1) && in(what, 0, 1) ? s.plan.get(i)[what] : BAD;
    }

    public int alter(int p, int what, int v) {
        if (!one(p) || !in(what, 0, 2) || !in(v, 0, what == 2 ? 7 : 3)) {
            return BAD;
        }
        int was = one(p, what);
        One o = s.people.get(p);
        if (what == 0) {
            o.kind = v;
        } else if (what == 1) {
            o.house = v;
        } else {
            o.home = v;
        }
        return was;
    }

    public int price(int r, int v) {
        if (!in(r, 0, 7) || !in(v, 0, 99)) {
            return BAD;
        }
        int was = s.worth[r];
        s.worth[r] = v;
        return was;
    }

    public int build(int a, int b) {
        if (!in(a, 0, 7) || !in(b, 0, 7) || a == b) {
            return BAD;
        }
        if (s.walls.size() == 9) {
            return FULL;
        }
        s.walls.add(new int[] {a, b});
        return s.walls.size();
    }

    public int plan(int p, int w) {
        if (!one(p) || !isWall(w)) {
            return BAD;
        }
        if (s.plan.size() == 6) {
            return FULL;
        }
        s.plan.add(new int[] {p, w});
        return s.plan.size();
    }

    public int cut(int n) {
        int had = s.plan.size();
        if (!in(n, 0, had)) {
            return BAD;
        }
        s.plan = new ArrayList<>(s.plan.subList(0, n));
        return had;
    }

    public int hang(int p, int w) {
        if (!one(p) || !isWall(w)) {
            return BAD;
        }
        return s.hang(p, w) ? bits(s.rooms(p)) : STATE;
    }

    public int fill(int w) {
        if (!isWall(w)) {
            return BAD;
        }
        Integer o = s.ownerAt(w);
        if (o == null) {
            return STATE;
        }
        s.people.get(o).wall = null;
        s.people.get(o).gone = true;
        return o;
    }

    public int steps(int p, int r) {
        if (!one(p) || !in(r, 0, 7)) {
            return BAD;
        }
        List<Integer> way = s.bestWay(p, r);
        return way == null ? NONE : way.size();
    }

    public int way(int p, int r, int i) {
        if (!one(p) || !in(r, 0, 7) || !in(i, 0, 6)) {
            return BAD;
        }
        List<Integer> way = s.bestWay(p, r);
        return way == null || i >= way.size() ? NONE : way.get(i);
    }

    public int meet(int p, int q) {
        return one(p) && one(q) && p != q ? bits(s.rooms(p)) & bits(s.rooms(q)) : BAD;
    }

    private static State follow(State from, int leftOut, List<Integer> passedOver) {
        State as = from.copy();
        for (int i = 0; i < from.plan.size(); i++) {
            if (i != leftOut && !as.hang(from.plan.get(i)[0], from.plan.get(i)[1])) {
                passedOver.add(i);
            }
        }
        return as;
    }

    public int runs(int what) {
        List<Integer> over = new ArrayList<>();
        State as = follow(s, -1, over);
        int[] answers = {s.plan.size() - over.size(), over.isEmpty() ? NONE : over.get(0), as.all(), as.hung()};
        return in(what, 0, 3) ? answers[what] : BAD;
    }

    public int ahead(int p) {
        return one(p) ? bits(follow(s, -1, new ArrayList<>()).rooms(p)) : BAD;
    }

    public int best(int p, int r, int what) {
        if (!one(p) || !in(r, 0, 7) || !in(what, 0, 1)) {
            return BAD;
        }
        if (!s.people.get(p).free()) {
            return STATE;
        }
        return hanging(p, p, r, what, false);
    }

    /** A ONE of low to high hangs his so that p comes to r. */
    private int hanging(int hanger, int p, int r, int what, boolean tellsWho) {
        int[] found = {NONE, 99};
        for (int q = 0; q < s.people.size(); q++) {
            for (int w = 0; w < s.walls.size() && (tellsWho ? q != p : q == hanger); w++) {
                State as = s.copy();
                List<Integer> way = as.hang(q, w) ? as.bestWay(p, r) : null;
                if (way != null && way.size() < found[1]) {
                    found = new int[] {tellsWho ? 10 * q + w : w, way.size()};
                }
            }
        }
        return found[0] == NONE ? NONE : found[what];
    }

    public int friend(int p, int r, int what) {
        return one(p) && in(r, 0, 7) && in(what, 0, 1) ? hanging(-1, p, r, what, true) : BAD;
    }

    public int gain(int p, int what) {
        if (!one(p) || !in(what, 0, 1)) {
            return BAD;
        }
        if (!s.people.get(p).free()) {
            return STATE;
        }
        int[] found = {NONE, s.gain(p)};
        for (int w = 0; w < s.walls.size(); w++) {
            State as = s.copy();
            if (as.hang(p, w) && as.gain(p) > found[1]) {
                found = new int[] {w, as.gain(p)};
            }
        }
        return found[0] == NONE ? NONE : found[what];
    }

    private static State filled(State from, int w) {
        State as = from.copy();
        One o = as.people.get(as.ownerAt(w));
        o.wall = null;
        o.gone = true;
        return as;
    }

    public int shut(int p, int r, int what) {
        if (!one(p) || !in(r, 0, 7) || !in(what, 0, 1)) {
            return BAD;
        }
        if (s.people.get(p).home == r) {
            return STATE;
        }
        int[] found = {99, 0};
        for (int set = 0; set < 512; set++) {
            State as = s;
            for (int w = 0; w < 9 && as != null; w++) {
                if ((set >> w & 1) == 1) {
                    as = w < s.walls.size() && as.ownerAt(w) != null ? filled(as, w) : null;
                }
            }
            if (as != null && !as.rooms(p).contains(r) && Integer.bitCount(set) < found[0]) {
                found = new int[] {Integer.bitCount(set), set};
            }
        }
        return found[what];
    }

    public int leave(int what) {
        if (!in(what, 0, 1)) {
            return BAD;
        }
        int[] found = {NONE, runs(2)};
        for (int i = 0; i < s.plan.size(); i++) {
            int all = follow(s, i, new ArrayList<>()).all();
            if (all > found[1]) {
                found = new int[] {i, all};
            }
        }
        return found[0] == NONE ? NONE : found[what];
    }

    public int kindly(int p, int what) {
        if (!one(p) || !in(what, 0, 1)) {
            return BAD;
        }
        int[] found = {NONE, -1};
        for (int k = 0; k < 4; k++) {
            State as = s.copy();
            as.people.get(p).kind = k;
            if (as.all() > found[1]) {
                found = new int[] {k, as.all()};
            }
        }
        return found[what];
    }

    public int dear(int p, int what) {
        if (!one(p) || !in(what, 0, 1)) {
            return BAD;
        }
        int[] found = {NONE, 0};
        for (int w : s.hungWalls()) {
            int cost = s.gain(p) - filled(s, w).gain(p);
            if (cost > found[1]) {
                found = new int[] {w, cost};
            }
        }
        return found[0] == NONE ? NONE : found[what];
    }

    private BigInteger weigh(int v, int p, int r, int i, Set<Integer> jammed) {
        List<Integer> hung = s.hungWalls();
        if (i == hung.size()) {
            Set<Integer> rooms = s.rooms(p, jammed);
            return BigInteger.valueOf(r < 0 ? rooms.size() : rooms.contains(r) ? 1 : 0);
        }
        Set<Integer> more = new HashSet<>(jammed);
        more.add(hung.get(i));
        return weigh(v, p, r, i + 1, more).multiply(BigInteger.valueOf(v))
            .add(weigh(v, p, r, i + 1, jammed).multiply(BigInteger.valueOf(10 - v)));
    }

    private long fraction(int v, int p, int r, int what) {
        BigInteger above = weigh(v, p, r, 0, Set.of());
        BigInteger below = BigInteger.TEN.pow(s.hung());
        return (what == 0 ? above : below).divide(above.gcd(below)).longValueExact();
    }

    public long luck(int v, int p, int r, int what) {
        return in(v, 0, 10) && one(p) && in(r, 0, 7) && in(what, 0, 1) ? fraction(v, p, r, what) : BAD;
    }

    public long mean(int v, int p, int what) {
        return in(v, 0, 10) && one(p) && in(what, 0, 1) ? fraction(v, p, -1, what) : BAD;
    }

    public int see(int p, int r, boolean reaches) {
        if (!one(p) || !in(r, 0, 7)) {
            return BAD;
        }
        if (seen.size() == 6) {
            return FULL;
        }
        seen.add(new int[] {p, r, reaches ? 1 : 0});
        return seen.size();
    }

    public int forget(int n) {
        int had = seen.size();
        if (!in(n, 0, had)) {
            return BAD;
        }
        seen = new ArrayList<>(seen.subList(0, n));
        return had;
    }

    private boolean asSeen(State as) {
        return seen.stream().allMatch(x -> as.rooms(x[0]).contains(x[1]) == (x[2] == 1));
    }

    public int kinds(int p) {
        if (!one(p)) {
            return BAD;
        }
        List<Integer> may = new ArrayList<>();
        for (int k = 0; k < 4; k++) {
            State as = s.copy();
            as.people.get(p).kind = k;
            if (asSeen(as)) {
                may.add(k);
            }
        }
        return bits(may);
    }

    private List<State> moved(int p, List<Integer> walls) {
        List<State> may = new ArrayList<>();
        for (int w = 0; w < s.walls.size(); w++) {
            if (s.ownerAt(w) != null && s.ownerAt(w) != p) {
                continue;
            }
            State as = s.copy();
            as.people.get(p).gone = false;
            as.people.get(p).wall = w;
            if (asSeen(as)) {
                may.add(as);
                walls.add(w);
            }
        }
        return may;
    }

    public int walls(int p) {
        if (!one(p)) {
            return BAD;
        }
        List<Integer> walls = new ArrayList<>();
        moved(p, walls);
        return bits(walls);
    }

    public int ask(int p, int what) {
        if (!one(p) || !in(what, 0, 1)) {
            return BAD;
        }
        List<State> may = moved(p, new ArrayList<>());
        int[] found = {NONE, may.size()};
        for (int code = 0; code < 10 * s.people.size(); code++) {
            int q = code / 10;
            int r = code % 10;
            int yes = (int) may.stream().filter(as -> as.rooms(q).contains(r)).count();
            int worst = Math.max(yes, may.size() - yes);
            if (r < 8 && worst < found[1]) {
                found = new int[] {code, worst};
            }
        }
        return found[0] == NONE ? NONE : found[what];
    }

    public int drift(int seed, int n, int what) {
        if (!in(n, 1, 60) || !in(what, 0, 1)) {
            return BAD;
        }
        if (s.people.isEmpty() || s.walls.isEmpty()) {
            return STATE;
        }
        State as = s.copy();
        BigInteger x = BigInteger.valueOf(seed);
        for (int i = 0; i < n; i++) {
            x = x.multiply(BigInteger.valueOf(1103515245)).add(BigInteger.valueOf(12345));
            int got = x.shiftRight(16).and(BigInteger.valueOf(32767)).intValue();
            int w = Math.floorDiv(got, 8) % as.walls.size();
            if (!as.hang(got % as.people.size(), w) && as.ownerAt(w) != null) {
                as.people.get(as.ownerAt(w)).wall = null;
            }
        }
        return what == 0 ? as.all() : as.hung();
    }

    public int keep(int k) {
        if (!in(k, 0, 1)) {
            return BAD;
        }
        int was = images[k] == null ? 0 : 1;
        images[k] = s.copy();
        return was;
    }

    public int back(int k) {
        if (!in(k, 0, 1)) {
            return BAD;
        }
        if (images[k] == null) {
            return STATE;
        }
        s = images[k].copy();
        return s.hung();
    }

    public int sheet(int k, int lane, int n) {
        if (!in(k, 0, 3) || !in(lane, 0, 2) || n > 40) {
            return BAD;
        }
        try {
            sheets[k] = lane == 0 ? new byte[n] : lane == 1 ? new short[n] : new int[n];
            return 1;
        } catch (NegativeArraySizeException e) {
            return -14;
        }
    }

    public int lay(int k, int i, int v) {
        if (!in(k, 0, 3)) {
            return BAD;
        }
        try {
            Object sheet = sheets[k];
            if (sheet instanceof byte[]) {
                ((byte[]) sheet)[i] = (byte) v;
            } else if (sheet instanceof short[]) {
                ((short[]) sheet)[i] = (short) v;
            } else {
                ((int[]) sheet)[i] = v;
            }
            return 1;
        } catch (NullPointerException e) {
            return -11;
        } catch (ArrayIndexOutOfBoundsException e) {
            return -12;
        }
    }

    private static int cell(Object sheet, int lane, int i) {
        return lane == 0 ? ((byte[]) sheet)[i] : lane == 1 ? ((short[]) sheet)[i] : ((int[]) sheet)[i];
    }

    public int read(int k, int lane, int f, int n) {
        if (!in(k, 0, 3) || !in(lane, 0, 2) || !in(n, 0, 20)) {
            return BAD;
        }
        State as = s.copy();
        int came = 0;
        int found = 0;
        try {
            for (; came < n; came++) {
                int p = cell(sheets[k], lane, f + 2 * came);
                int w = cell(sheets[k], lane, f + 2 * came + 1);
                if (!as.hang(p, w)) {
                    return -20 - came;
                }
            }
        } catch (NullPointerException e) {
            found = 1;
        } catch (ArrayIndexOutOfBoundsException e) {
            found = 2;
        } catch (ClassCastException e) {
            found = 3;
        }
        s = as;
        torn = found;
        return came;
    }

    public int torn() {
        return torn;
    }

    public int count(int what) {
        int gone = 0;
        for (One o : s.people) {
            gone += o.gone ? 1 : 0;
        }
        int images = (this.images[0] == null ? 0 : 1) + (this.images[1] == null ? 0 : 1);
        int cells = sheets[0] == null ? NONE : java.lang.reflect.Array.getLength(sheets[0]);
        int[] answers = {seen.size(), images, tape.length(), cells, Arrays.stream(s.worth).sum(), gone};
        return in(what, 0, 5) ? answers[what] : BAD;
    }
}
