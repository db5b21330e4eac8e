import java.util.Arrays;

/**
 * A town of rooms, walls and people, each of whom may hang one door, once, in any wall.
 * Words in capitals are those of the document (../shared/DOC.md).
 */
public final class DoorTown {
    public static final int BAD = -1, STATE = -2, FULL = -3, NONE = -4;

    private static final int ROOMS = 8, MOST_WORTH = 99, MOST_WALLS = 9, MOST_PEOPLE = 5, MOST_ACTS = 6;
    private static final int KINDS = 4, HOUSES = 4;
    private static final int OWN = 0, HOUSE = 1, STRANGER = 2;
    /** Where a DOOR is that is HUNG in no WALL; whose the DOOR is in a WALL without one. */
    private static final int FREE = -1, GONE = -2, NOBODY = -1;
    private static final int BLANK = 32, MOST_BYTES = 160, MOST_BYTE = 127, MOST_FIGURES = 2;
    private static final int NO_TOKEN = 0, NAME = 1, NUMBER = 2, SIGN = 3, END = 4;
    private static final int MOST_SEEN = 6, IMAGES = 2, SHEETS = 4, LANES = 3, MOST_CELLS = 40;
    private static final int BYTES = 0, SHORTS = 1;
    private static final int NULL = 1, INDEX = 2, CAST = 3, SIZE = 4;
    private static final int MOST_READ = 20, MOST_DRIFT = 60, TENTHS = 10;
    /** Euclid needs far fewer turns for any two longs. */
    private static final int GCD_TURNS = 200;

    private final Reader reader;
    private final Town town;
    /** What would be, apart from what is. */
    private final Town trial;
    private final Sightings seen;
    private final Town[] images;
    private final boolean[] kept;
    private final Sheet[] sheets;
    /** By ROOMS; kept so that no call has to make it. */
    private final int[] reaching;
    private int textFault;
    private int readFault;

    public DoorTown() {
        reader = new Reader();
        town = new Town();
        trial = new Town();
        seen = new Sightings();
        images = new Town[IMAGES];
        for (int k = 0; k < IMAGES; k++) {
            images[k] = new Town();
        }
        kept = new boolean[IMAGES];
        sheets = new Sheet[SHEETS];
        for (int k = 0; k < SHEETS; k++) {
            sheets[k] = new Sheet();
        }
        reaching = new int[ROOMS];
    }

    // ---- the text, what there is

    public int feed(int c) {
        if (!isUpTo(c, MOST_BYTE)) {
            return BAD;
        }
        return reader.tape.append(c) ? reader.tape.length : FULL;
    }

    public int end(int n) {
        int had = reader.tape.length;
        if (!isUpTo(n, had)) {
            return BAD;
        }
        reader.tape.length = n;
        return had;
    }

    public int text() {
        reader.readAll();
        reader.tape.length = 0;
        textFault = reader.found;
        if (textFault != 0) {
            return -10 - reader.foundAt;
        }
        town.become(reader.told);
        seen.size = 0;
        for (int k = 0; k < IMAGES; k++) {
            kept[k] = false;
        }
        return reader.lines;
    }

    public int fault() {
        return textFault;
    }

    public int rule(int what) {
        switch (what) {
            case 0: return town.people;
            case 1: return town.walls;
            case 2: return Integer.bitCount(town.hungWalls());
            case 3: return town.acts;
            case 4: return town.doorsAt(FREE);
            case 5: return town.unreached();
            default: return BAD;
        }
    }

    public int one(int p, int what) {
        if (!town.isOne(p)) {
            return BAD;
        }
        switch (what) {
            case 0: return town.kind[p];
            case 1: return town.house[p];
            case 2: return town.home[p];
            case 3: return town.at[p] < 0 ? NONE : town.at[p];
            case 4: return town.reached(p);
            case 5: return town.gainOf(p, town.reached(p));
            case 6: return town.doorState(p);
            default: return BAD;
        }
    }

    public int wall(int w, int what) {
        if (!town.isWall(w)) {
            return BAD;
        }
        switch (what) {
            case 0: return town.sideA[w];
            case 1: return town.sideB[w];
            case 2: return town.owner[w] == NOBODY ? NONE : town.owner[w];
            case 3: return town.whomLets(w);
            default: return BAD;
        }
    }

    public int room(int r, int what) {
        if (!isRoom(r)) {
            return BAD;
        }
        switch (what) {
            case 0: return town.worth[r];
            case 1: return town.whoReaches(r);
            default: return BAD;
        }
    }

    public int act(int i, int what) {
        if (i < 0 || i >= town.acts) {
            return BAD;
        }
        switch (what) {
            case 0: return town.actOne[i];
            case 1: return town.actWall[i];
            default: return BAD;
        }
    }

    // ---- what is changed

    public int alter(int p, int what, int v) {
        if (!town.isOne(p)) {
            return BAD;
        }
        switch (what) {
            case 0: return replaced(town.kind, p, v, KINDS - 1);
            case 1: return replaced(town.house, p, v, HOUSES - 1);
            case 2: return replaced(town.home, p, v, ROOMS - 1);
            default: return BAD;
        }
    }

    public int price(int r, int v) {
        return replaced(town.worth, r, v, MOST_WORTH);
    }

    public int build(int a, int b) {
        if (!isRoom(a) || !isRoom(b) || a == b) {
            return BAD;
        }
        return town.addWall(a, b) ? town.walls : FULL;
    }

    public int plan(int p, int w) {
        if (!town.isOne(p) || !town.isWall(w)) {
            return BAD;
        }
        return town.addAct(p, w) ? town.acts : FULL;
    }

    public int cut(int n) {
        int had = town.acts;
        if (!isUpTo(n, had)) {
            return BAD;
        }
        town.acts = n;
        return had;
    }

    // ---- doors, ways

    public int hang(int p, int w) {
        if (!town.isOne(p) || !town.isWall(w)) {
            return BAD;
        }
        return town.hangDoor(p, w) ? town.reached(p) : STATE;
    }

    public int fill(int w) {
        if (!town.isWall(w)) {
            return BAD;
        }
        int whose = town.takeDoor(w, GONE);
        return whose == NOBODY ? STATE : whose;
    }

    public int steps(int p, int r) {
        if (!town.isOne(p) || !isRoom(r)) {
            return BAD;
        }
        return town.distance(town.home[p], r, town.passed(p));
    }

    public int way(int p, int r, int i) {
        if (!town.isOne(p) || !isRoom(r) || !isUpTo(i, ROOMS - 2)) {
            return BAD;
        }
        return town.wallOnWay(p, r, i);
    }

    public int meet(int p, int q) {
        if (!town.isOne(p) || !town.isOne(q) || p == q) {
            return BAD;
        }
        return town.reached(p) & town.reached(q);
    }

    public int runs(int what) {
        if (!isUpTo(what, 3)) {
            return BAD;
        }
        trial.become(town);
        int came = trial.followPlan(NONE);
        switch (what) {
            case 0: return Integer.bitCount(came);
            case 1: return firstMissing(came, town.acts);
            case 2: return trial.reachedByAll();
            default: return Integer.bitCount(trial.hungWalls());
        }
    }

    public int ahead(int p) {
        if (!town.isOne(p)) {
            return BAD;
        }
        trial.become(town);
        trial.followPlan(NONE);
        return trial.reached(p);
    }

    // ---- what is best

    public int best(int p, int r, int what) {
        if (!town.isOne(p) || !isRoom(r) || !isUpTo(what, 1)) {
            return BAD;
        }
        if (town.at[p] != FREE) {
            return STATE;
        }
        int wall = NONE;
        int fewest = ROOMS;
        for (int w = 0; w < town.walls; w++) {
            int steps = town.distanceIfHung(p, w, p, r);
            if (steps >= 0 && steps < fewest) {
                wall = w;
                fewest = steps;
            }
        }
        return wall == NONE || what == 0 ? wall : fewest;
    }

    public int friend(int p, int r, int what) {
        if (!town.isOne(p) || !isRoom(r) || !isUpTo(what, 1)) {
            return BAD;
        }
        int who = NONE;
        int fewest = ROOMS;
        for (int q = 0; q < town.people; q++) {
            for (int w = 0; w < town.walls; w++) {
                int steps = q == p ? NONE : town.distanceIfHung(q, w, p, r);
                if (steps >= 0 && steps < fewest) {
                    who = 10 * q + w;
                    fewest = steps;
                }
            }
        }
        return who == NONE || what == 0 ? who : fewest;
    }

    public int gain(int p, int what) {
        if (!town.isOne(p) || !isUpTo(what, 1)) {
            return BAD;
        }
        if (town.at[p] != FREE) {
            return STATE;
        }
        int wall = NONE;
        int most = town.gainOf(p, town.reached(p));
        for (int w = 0; w < town.walls; w++) {
            int gain = town.gainIfHung(p, w);
            if (gain > most) {
                wall = w;
                most = gain;
            }
        }
        return wall == NONE || what == 0 ? wall : most;
    }

    public int shut(int p, int r, int what) {
        if (!town.isOne(p) || !isRoom(r) || !isUpTo(what, 1)) {
            return BAD;
        }
        if (r == town.home[p]) {
            return STATE;
        }
        int which = town.leastShutting(p, r);
        return what == 0 ? Integer.bitCount(which) : which;
    }

    public int leave(int what) {
        if (!isUpTo(what, 1)) {
            return BAD;
        }
        int act = NONE;
        int most = reachedByPlan(NONE);
        for (int i = 0; i < town.acts; i++) {
            int rooms = reachedByPlan(i);
            if (rooms > most) {
                act = i;
                most = rooms;
            }
        }
        return act == NONE || what == 0 ? act : most;
    }

    public int kindly(int p, int what) {
        if (!town.isOne(p) || !isUpTo(what, 1)) {
            return BAD;
        }
        trial.become(town);
        int kind = NONE;
        int most = -1;
        for (int k = 0; k < KINDS; k++) {
            trial.kind[p] = k;
            int rooms = trial.reachedByAll();
            if (rooms > most) {
                kind = k;
                most = rooms;
            }
        }
        return what == 0 ? kind : most;
    }

    public int dear(int p, int what) {
        if (!town.isOne(p) || !isUpTo(what, 1)) {
            return BAD;
        }
        int open = town.passed(p);
        int gain = town.gainOf(p, town.reached(p));
        int wall = NONE;
        int most = 0;
        for (int w = 0; w < town.walls; w++) {
            int cost = gain - town.gainOf(p, town.spread(town.home[p], open & ~(1 << w)));
            if (cost > most) {
                wall = w;
                most = cost;
            }
        }
        return wall == NONE || what == 0 ? wall : most;
    }

    // ---- doors that jam

    public long luck(int v, int p, int r, int what) {
        if (!isUpTo(v, TENTHS) || !town.isOne(p) || !isRoom(r) || !isUpTo(what, 1)) {
            return BAD;
        }
        return inLowestTerms(town.reachedWhenJammed(v, p, 1 << r), town.jamWeights(), what);
    }

    public long mean(int v, int p, int what) {
        if (!isUpTo(v, TENTHS) || !town.isOne(p) || !isUpTo(what, 1)) {
            return BAD;
        }
        return inLowestTerms(town.reachedWhenJammed(v, p, (1 << ROOMS) - 1), town.jamWeights(), what);
    }

    // ---- which door it was

    public int see(int p, int r, boolean reaches) {
        if (!town.isOne(p) || !isRoom(r)) {
            return BAD;
        }
        return seen.note(p, r, reaches) ? seen.size : FULL;
    }

    public int forget(int n) {
        int had = seen.size;
        if (!isUpTo(n, had)) {
            return BAD;
        }
        seen.size = n;
        return had;
    }

    public int kinds(int p) {
        if (!town.isOne(p)) {
            return BAD;
        }
        trial.become(town);
        int kinds = 0;
        for (int k = 0; k < KINDS; k++) {
            trial.kind[p] = k;
            if (seen.allHoldIn(trial)) {
                kinds |= 1 << k;
            }
        }
        return kinds;
    }

    public int walls(int p) {
        return town.isOne(p) ? wallsAsSeen(p) : BAD;
    }

    public int ask(int p, int what) {
        if (!town.isOne(p) || !isUpTo(what, 1)) {
            return BAD;
        }
        int walls = wallsAsSeen(p);
        int all = Integer.bitCount(walls);
        int asked = NONE;
        int fewest = all;
        for (int q = 0; q < town.people; q++) {
            countReaching(p, walls, q);
            for (int r = 0; r < ROOMS; r++) {
                int worst = Math.max(reaching[r], all - reaching[r]);
                if (worst < fewest) {
                    asked = 10 * q + r;
                    fewest = worst;
                }
            }
        }
        return asked == NONE || what == 0 ? asked : fewest;
    }

    // ---- by a seed

    public int drift(int seed, int n, int what) {
        if (n < 1 || n > MOST_DRIFT || !isUpTo(what, 1)) {
            return BAD;
        }
        if (town.people == 0 || town.walls == 0) {
            return STATE;
        }
        trial.become(town);
        int next = seed;
        for (int i = 0; i < n; i++) {
            next = next * 1103515245 + 12345;
            trial.driftOnce((next >>> 16) & 0x7FFF);
        }
        return what == 0 ? trial.reachedByAll() : Integer.bitCount(trial.hungWalls());
    }

    // ---- images, sheets

    public int keep(int k) {
        if (!isUpTo(k, IMAGES - 1)) {
            return BAD;
        }
        int was = kept[k] ? 1 : 0;
        images[k].become(town);
        kept[k] = true;
        return was;
    }

    public int back(int k) {
        if (!isUpTo(k, IMAGES - 1)) {
            return BAD;
        }
        if (!kept[k]) {
            return STATE;
        }
        town.become(images[k]);
        return Integer.bitCount(town.hungWalls());
    }

    public int sheet(int k, int lane, int n) {
        if (!isUpTo(k, SHEETS - 1) || !isUpTo(lane, LANES - 1) || n > MOST_CELLS) {
            return BAD;
        }
        if (n < 0) {
            return -10 - SIZE;
        }
        sheets[k].renew(lane, n);
        return 1;
    }

    public int lay(int k, int i, int v) {
        if (!isUpTo(k, SHEETS - 1)) {
            return BAD;
        }
        Sheet to = sheets[k];
        int found = to.faultAt(to.lane, i);
        if (found != 0) {
            return -10 - found;
        }
        to.cells[i] = narrowed(v, to.lane);
        return 1;
    }

    public int read(int k, int lane, int f, int n) {
        if (!isUpTo(k, SHEETS - 1) || !isUpTo(lane, LANES - 1) || !isUpTo(n, MOST_READ)) {
            return BAD;
        }
        Sheet from = sheets[k];
        trial.become(town);
        int found = 0;
        int came = 0;
        for (int i = 0; i < n && found == 0; i++) {
            found = from.faultAtTwo(lane, f, i);
            if (found == 0) {
                int cell = f + 2 * i;
                if (!trial.hangDoor(from.cells[cell], from.cells[cell + 1])) {
                    return -20 - i;
                }
                came++;
            }
        }
        town.become(trial);
        readFault = found;
        return came;
    }

    public int torn() {
        return readFault;
    }

    public int count(int what) {
        switch (what) {
            case 0: return seen.size;
            case 1: return (kept[0] ? 1 : 0) + (kept[1] ? 1 : 0);
            case 2: return reader.tape.length;
            case 3: return sheets[0].size < 0 ? NONE : sheets[0].size;
            case 4: return town.worthOf((1 << ROOMS) - 1);
            case 5: return Integer.bitCount(town.doorsAt(GONE));
            default: return BAD;
        }
    }

    // ---- what several calls need

    private static boolean isUpTo(int v, int most) {
        return v >= 0 && v <= most;
    }

    private static boolean isRoom(int r) {
        return r >= 0 && r < ROOMS;
    }

    private static boolean hasBit(int bits, int i) {
        return i >= 0 && i < 32 && (bits >>> i & 1) == 1;
    }

    /** Puts v, if v and the place may be: what was there; else BAD. */
    private static int replaced(int[] row, int i, int v, int most) {
        if (i < 0 || i >= row.length || !isUpTo(v, most)) {
            return BAD;
        }
        int was = row[i];
        row[i] = v;
        return was;
    }

    private static int firstMissing(int bits, int n) {
        for (int i = 0; i < n; i++) {
            if (!hasBit(bits, i)) {
                return i;
            }
        }
        return NONE;
    }

    private static long inLowestTerms(long above, long below, int what) {
        long a = below;
        long b = above;
        for (int turn = 0; turn < GCD_TURNS && b != 0; turn++) {
            long rest = a % b;
            a = b;
            b = rest;
        }
        if (a == 0) {
            return BAD;
        }
        return what == 0 ? above / a : below / a;
    }

    private static int narrowed(int v, int lane) {
        switch (lane) {
            case BYTES: return (byte) v;
            case SHORTS: return (short) v;
            default: return v;
        }
    }

    private int reachedByPlan(int leftOut) {
        trial.become(town);
        trial.followPlan(leftOut);
        return trial.reachedByAll();
    }

    private int wallsAsSeen(int p) {
        trial.become(town);
        int walls = 0;
        for (int w = 0; w < town.walls; w++) {
            if (trial.moveDoor(p, w) && seen.allHoldIn(trial)) {
                walls |= 1 << w;
            }
        }
        return walls;
    }

    /** For each ROOM: in how many of some WALLS a ONE's DOOR would let another REACH it. */
    private void countReaching(int p, int walls, int q) {
        trial.become(town);
        Arrays.fill(reaching, 0);
        for (int w = 0; w < town.walls; w++) {
            int rooms = hasBit(walls, w) && trial.moveDoor(p, w) ? trial.reached(q) : 0;
            for (int r = 0; r < ROOMS; r++) {
                reaching[r] += rooms >>> r & 1;
            }
        }
    }

    /** PEOPLE, DOORS, WALLS, ROOMS, THE PLAN. */
    private static final class Town {
        final int[] kind = new int[MOST_PEOPLE];
        final int[] house = new int[MOST_PEOPLE];
        final int[] home = new int[MOST_PEOPLE];
        /** The WALL in which a ONE's DOOR is HUNG, or FREE, or GONE. */
        final int[] at = new int[MOST_PEOPLE];
        final int[] sideA = new int[MOST_WALLS];
        final int[] sideB = new int[MOST_WALLS];
        /** Whose DOOR is HUNG in a WALL, or NOBODY. */
        final int[] owner = new int[MOST_WALLS];
        final int[] worth = new int[ROOMS];
        final int[] actOne = new int[MOST_ACTS];
        final int[] actWall = new int[MOST_ACTS];
        int people;
        int walls;
        int acts;

        Town() {
            Arrays.fill(owner, NOBODY);
        }

        void clear() {
            people = 0;
            walls = 0;
            acts = 0;
            Arrays.fill(owner, NOBODY);
            Arrays.fill(worth, 0);
        }

        void become(Town other) {
            people = other.people;
            walls = other.walls;
            acts = other.acts;
            System.arraycopy(other.kind, 0, kind, 0, MOST_PEOPLE);
            System.arraycopy(other.house, 0, house, 0, MOST_PEOPLE);
            System.arraycopy(other.home, 0, home, 0, MOST_PEOPLE);
            System.arraycopy(other.at, 0, at, 0, MOST_PEOPLE);
            System.arraycopy(other.sideA, 0, sideA, 0, MOST_WALLS);
            System.arraycopy(other.sideB, 0, sideB, 0, MOST_WALLS);
            System.arraycopy(other.owner, 0, owner, 0, MOST_WALLS);
            System.arraycopy(other.worth, 0, worth, 0, ROOMS);
            System.arraycopy(other.actOne, 0, actOne, 0, MOST_ACTS);
            System.arraycopy(other.actWall, 0, actWall, 0, MOST_ACTS);
        }

        boolean isOne(int p) {
            return p >= 0 && p < people && p < MOST_PEOPLE;
        }

        boolean isWall(int w) {
            return w >= 0 && w < walls && w < MOST_WALLS;
        }

        boolean addOne(int itsKind, int itsHouse, int itsHome) {
            if (people < 0 || people >= MOST_PEOPLE) {
                return false;
            }
            kind[people] = itsKind;
            house[people] = itsHouse;
            home[people] = itsHome;
            at[people] = FREE;
            people++;
            return true;
        }

        boolean addWall(int a, int b) {
            if (walls < 0 || walls >= MOST_WALLS) {
                return false;
            }
            sideA[walls] = a;
            sideB[walls] = b;
            walls++;
            return true;
        }

        boolean addAct(int p, int w) {
            if (acts < 0 || acts >= MOST_ACTS) {
                return false;
            }
            actOne[acts] = p;
            actWall[acts] = w;
            acts++;
            return true;
        }

        /** Whether a DOOR or an ACT names a ONE or a WALL that there is not. */
        boolean namesMissing() {
            for (int w = walls; w < MOST_WALLS; w++) {
                if (w >= 0 && owner[w] != NOBODY) {
                    return true;
                }
            }
            for (int i = 0; i < acts && i < MOST_ACTS; i++) {
                if (!isOne(actOne[i]) || !isWall(actWall[i])) {
                    return true;
                }
            }
            return false;
        }

        // ---- doors

        boolean canHang(int p, int w) {
            return isOne(p) && isWall(w) && at[p] == FREE && owner[w] == NOBODY;
        }

        boolean hangDoor(int p, int w) {
            if (!canHang(p, w)) {
                return false;
            }
            at[p] = w;
            owner[w] = p;
            return true;
        }

        /** Empties a WALL; its DOOR is FREE or GONE then: whose it was. */
        int takeDoor(int w, int then) {
            int whose = isWall(w) ? owner[w] : NOBODY;
            if (!isOne(whose)) {
                return NOBODY;
            }
            owner[w] = NOBODY;
            at[whose] = then;
            return whose;
        }

        /** Hangs a ONE's DOOR in a WALL, wherever it was, unless another one is there. */
        boolean moveDoor(int p, int w) {
            if (!isOne(p) || !isWall(w) || (owner[w] != NOBODY && owner[w] != p)) {
                return false;
            }
            takeDoor(at[p], FREE);
            at[p] = FREE;
            return hangDoor(p, w);
        }

        int doorState(int p) {
            return at[p] == FREE ? 0 : at[p] == GONE ? 2 : 1;
        }

        int doorsAt(int where) {
            int bits = 0;
            for (int p = 0; p < people; p++) {
                if (at[p] == where) {
                    bits |= 1 << p;
                }
            }
            return bits;
        }

        int hungWalls() {
            int bits = 0;
            for (int w = 0; w < walls; w++) {
                if (owner[w] != NOBODY) {
                    bits |= 1 << w;
                }
            }
            return bits;
        }

        /** Whether a DOOR lets a ONE pass, wherever it is hung. */
        boolean lets(int itsOwner, int p) {
            if (!isOne(itsOwner) || !isOne(p)) {
                return false;
            }
            switch (kind[itsOwner]) {
                case OWN: return p == itsOwner;
                case HOUSE: return house[p] == house[itsOwner];
                case STRANGER: return house[p] != house[itsOwner];
                default: return p != itsOwner;
            }
        }

        int whomLets(int w) {
            int bits = 0;
            for (int p = 0; p < people; p++) {
                if (lets(owner[w], p)) {
                    bits |= 1 << p;
                }
            }
            return bits;
        }

        // ---- ways

        /** WALLS (bits) that a ONE PASSES. */
        int passed(int p) {
            int bits = 0;
            for (int w = 0; w < walls; w++) {
                if (lets(owner[w], p)) {
                    bits |= 1 << w;
                }
            }
            return bits;
        }

        /** WALLS that a ONE PASSES, were another's DOOR in a WALL more. */
        int passedIfHung(int hanger, int w, int p) {
            return lets(hanger, p) ? passed(p) | 1 << w : passed(p);
        }

        /** ROOMS next to some ROOMS through open WALLS. */
        int nextTo(int rooms, int open) {
            int more = 0;
            for (int w = 0; w < walls; w++) {
                boolean isOpen = hasBit(open, w);
                if (isOpen && hasBit(rooms, sideA[w])) {
                    more |= 1 << sideB[w];
                }
                if (isOpen && hasBit(rooms, sideB[w])) {
                    more |= 1 << sideA[w];
                }
            }
            return more;
        }

        /** ROOMS to which open WALLS lead from a ROOM, itself too. */
        int spread(int from, int open) {
            int rooms = 1 << from;
            int more = rooms | nextTo(rooms, open);
            for (int step = 1; step < ROOMS && more != rooms; step++) {
                rooms = more;
                more |= nextTo(rooms, open);
            }
            return more;
        }

        int distance(int from, int to, int open) {
            int rooms = 1 << from;
            for (int step = 0; step < ROOMS; step++) {
                if (hasBit(rooms, to)) {
                    return step;
                }
                rooms |= nextTo(rooms, open);
            }
            return NONE;
        }

        int distanceIfHung(int hanger, int w, int p, int r) {
            return canHang(hanger, w) ? distance(home[p], r, passedIfHung(hanger, w, p)) : NONE;
        }

        /** GAIN of a ONE, were his DOOR in a WALL; NONE where it can not be. */
        int gainIfHung(int p, int w) {
            return canHang(p, w) ? gainOf(p, spread(home[p], passedIfHung(p, w, p))) : NONE;
        }

        int reached(int p) {
            return spread(home[p], passed(p));
        }

        int wallOnWay(int p, int r, int i) {
            int open = passed(p);
            int here = home[p];
            int wall = NONE;
            for (int turn = 0; turn <= i; turn++) {
                wall = firstTowards(here, r, open);
                if (wall == NONE) {
                    return NONE;
                }
                here = otherSide(wall, here);
            }
            return wall;
        }

        /** The first WALL from a ROOM by which a way of fewest STEPS may begin. */
        private int firstTowards(int here, int to, int open) {
            int left = distance(here, to, open);
            for (int w = 0; w < walls && left > 0; w++) {
                int other = otherSide(w, here);
                if (hasBit(open, w) && other >= 0 && distance(other, to, open) == left - 1) {
                    return w;
                }
            }
            return NONE;
        }

        private int otherSide(int w, int here) {
            return sideA[w] == here ? sideB[w] : sideB[w] == here ? sideA[w] : NONE;
        }

        int unreached() {
            int rooms = (1 << ROOMS) - 1;
            for (int p = 0; p < people; p++) {
                rooms &= ~reached(p);
            }
            return rooms;
        }

        int whoReaches(int r) {
            int bits = 0;
            for (int p = 0; p < people; p++) {
                if (hasBit(reached(p), r)) {
                    bits |= 1 << p;
                }
            }
            return bits;
        }

        int reachedByAll() {
            int sum = 0;
            for (int p = 0; p < people; p++) {
                sum += Integer.bitCount(reached(p));
            }
            return sum;
        }

        int worthOf(int rooms) {
            int sum = 0;
            for (int r = 0; r < ROOMS; r++) {
                if (hasBit(rooms, r)) {
                    sum += worth[r];
                }
            }
            return sum;
        }

        int gainOf(int p, int rooms) {
            return worthOf(rooms & ~(1 << home[p]));
        }

        /** WALLS (bits) to be FILLED; ascending, so that the least of the fewest stays. */
        int leastShutting(int p, int r) {
            int hung = hungWalls();
            int open = passed(p);
            int least = hung;
            for (int bits = 0; bits < 1 << MOST_WALLS; bits++) {
                boolean fewer = Integer.bitCount(bits) < Integer.bitCount(least);
                boolean may = (bits & ~hung) == 0 && fewer;
                if (may && !hasBit(spread(home[p], open & ~bits), r)) {
                    least = bits;
                }
            }
            return least;
        }

        // ---- what would be

        /** BY THE PLAN, but for one ACT: which came (bits). */
        int followPlan(int leftOut) {
            int came = 0;
            for (int i = 0; i < acts; i++) {
                if (i != leftOut && hangDoor(actOne[i], actWall[i])) {
                    came |= 1 << i;
                }
            }
            return came;
        }

        void driftOnce(int got) {
            if (people <= 0 || walls <= 0) {
                return;
            }
            int w = got / 8 % walls;
            if (!hangDoor(got % people, w)) {
                takeDoor(w, FREE);
            }
        }

        /** By how much all that may jam or not is weighed: 10 for each DOOR that is HUNG. */
        long jamWeights() {
            return power(TENTHS, Integer.bitCount(hungWalls()));
        }

        /** How many of some ROOMS a ONE REACHES, weighed over all that may jam. */
        long reachedWhenJammed(int v, int p, int rooms) {
            int hung = hungWalls();
            int open = passed(p);
            long sum = 0;
            for (int jammed = 0; jammed < 1 << MOST_WALLS; jammed++) {
                if ((jammed & ~hung) == 0) {
                    long weight = power(v, Integer.bitCount(jammed))
                            * power(TENTHS - v, Integer.bitCount(hung & ~jammed));
                    sum += weight * Integer.bitCount(rooms & spread(home[p], open & ~jammed));
                }
            }
            return sum;
        }

        private static long power(int base, int times) {
            long product = 1;
            for (int i = 0; i < times; i++) {
                product *= base;
            }
            return product;
        }
    }

    /** What is SEEN. */
    private static final class Sightings {
        private final int[] who = new int[MOST_SEEN];
        private final int[] where = new int[MOST_SEEN];
        private final boolean[] reaches = new boolean[MOST_SEEN];
        int size;

        boolean note(int p, int r, boolean whether) {
            if (size < 0 || size >= MOST_SEEN) {
                return false;
            }
            who[size] = p;
            where[size] = r;
            reaches[size] = whether;
            size++;
            return true;
        }

        boolean allHoldIn(Town town) {
            for (int i = 0; i < size && i < MOST_SEEN; i++) {
                if (town.isOne(who[i]) && hasBit(town.reached(who[i]), where[i]) != reaches[i]) {
                    return false;
                }
            }
            return true;
        }
    }

    /** A row of CELLS of a lane, or nothing (size -1). */
    private static final class Sheet {
        final int[] cells = new int[MOST_CELLS];
        int lane;
        int size = -1;

        void renew(int itsLane, int n) {
            lane = itsLane;
            size = n;
            Arrays.fill(cells, 0);
        }

        int faultAt(int asLane, long cell) {
            if (size < 0) {
                return NULL;
            }
            if (lane != asLane) {
                return CAST;
            }
            return cell < 0 || cell >= size || cell >= MOST_CELLS ? INDEX : 0;
        }

        int faultAtTwo(int asLane, int f, int i) {
            long first = f + 2L * i;
            int found = faultAt(asLane, first);
            return found != 0 ? found : faultAt(asLane, first + 1);
        }
    }

    /** THE TAPE, and the TOKEN that was read of it last. */
    private static final class Tape {
        private final byte[] bytes = new byte[MOST_BYTES];
        int length;
        int token;
        int place;
        /** Of a NUMBER alone. */
        int value;
        private int cursor;

        boolean append(int c) {
            if (length < 0 || length >= MOST_BYTES) {
                return false;
            }
            bytes[length] = (byte) c;
            length++;
            return true;
        }

        void rewind() {
            cursor = 0;
        }

        void readToken() {
            while (cursor < length && byteAt(cursor) == BLANK) {
                cursor++;
            }
            place = cursor;
            value = 0;
            token = tokenOf(byteAt(cursor));
            if (token == SIGN) {
                cursor++;
            }
            boolean longer = token == NAME || token == NUMBER;
            while (longer && cursor < length && tokenOf(byteAt(cursor)) == token) {
                value = value * 10 + byteAt(cursor) - '0';
                cursor++;
            }
            if (token == NUMBER && cursor - place > MOST_FIGURES) {
                token = NO_TOKEN;
            }
        }

        private static int tokenOf(int c) {
            if (c < 0) {
                return END;
            }
            if (c >= 'a' && c <= 'z') {
                return NAME;
            }
            if (c >= '0' && c <= '9') {
                return NUMBER;
            }
            return c == ';' ? SIGN : NO_TOKEN;
        }

        boolean isName(String name) {
            if (token != NAME || cursor - place != name.length()) {
                return false;
            }
            for (int i = 0; i < name.length(); i++) {
                if (byteAt(place + i) != name.charAt(i)) {
                    return false;
                }
            }
            return true;
        }

        /** The byte at a place; -1 where there is none. */
        private int byteAt(int i) {
            return i >= 0 && i < length && i < MOST_BYTES ? bytes[i] : -1;
        }
    }

    /** Reads THE TAPE, line by line, up to its first FAULT. */
    private static final class Reader {
        final Tape tape = new Tape();
        final Town told = new Town();
        int lines;
        int found;
        int foundAt;
        private int roomsTold;
        private boolean planTold;

        void readAll() {
            tape.rewind();
            told.clear();
            lines = 0;
            found = 0;
            foundAt = 0;
            roomsTold = 0;
            planTold = false;
            for (int turn = 0; turn <= MOST_BYTES && nextToken() && tape.token != END; turn++) {
                int kind = kindNamed();
                if (kind >= 0) {
                    readOne(kind);
                } else if (tape.isName("wall")) {
                    readWall();
                } else if (tape.isName("room")) {
                    readRoom();
                } else if (tape.isName("plan")) {
                    readPlan();
                } else {
                    refuse(2);
                }
                lines++;
            }
            if (found == 0 && told.namesMissing()) {
                found = 6;
                foundAt = tape.length;
            }
        }

        private int kindNamed() {
            for (int kind = 0; kind < KINDS; kind++) {
                if (tape.isName(nameOfKind(kind))) {
                    return kind;
                }
            }
            return NONE;
        }

        private static String nameOfKind(int kind) {
            switch (kind) {
                case OWN: return "own";
                case HOUSE: return "house";
                case STRANGER: return "stranger";
                default: return "gaol";
            }
        }

        private void readOne(int kind) {
            if (told.people >= MOST_PEOPLE) {
                refuse(5);
                return;
            }
            int house = nextNumber(HOUSES - 1);
            int home = nextNumber(ROOMS - 1);
            if (!nextToken()) {
                return;
            }
            told.addOne(kind, house, home);
            if (tape.token == NUMBER) {
                hangToldDoor();
                nextToken();
            }
            takeSign();
        }

        /** The WALL may be told later, so it is asked behind all whether there is one. */
        private void hangToldDoor() {
            int w = numberHere(MOST_WALLS - 1);
            int p = told.people - 1;
            if (w < 0 || !told.isOne(p)) {
                return;
            }
            if (told.owner[w] != NOBODY) {
                refuse(4);
                return;
            }
            told.owner[w] = p;
            told.at[p] = w;
        }

        private void readWall() {
            if (told.walls >= MOST_WALLS) {
                refuse(5);
                return;
            }
            int a = nextNumber(ROOMS - 1);
            int b = nextNumber(ROOMS - 1);
            if (found == 0 && a == b) {
                refuse(3);
            }
            nextToken();
            takeSign();
            if (found == 0) {
                told.addWall(a, b);
            }
        }

        private void readRoom() {
            int r = nextNumber(ROOMS - 1);
            if (hasBit(roomsTold, r)) {
                refuse(4);
            }
            int worth = nextNumber(MOST_WORTH);
            nextToken();
            takeSign();
            if (found == 0 && isRoom(r)) {
                roomsTold |= 1 << r;
                told.worth[r] = worth;
            }
        }

        private void readPlan() {
            if (planTold) {
                refuse(4);
            }
            planTold = true;
            for (int turn = 0; turn <= MOST_ACTS && nextToken() && tape.token != SIGN; turn++) {
                // A 7th begins with a NUMBER, whatever its value; no other TOKEN begins an ACT.
                if (told.acts >= MOST_ACTS && tape.token == NUMBER) {
                    refuse(5);
                }
                int p = numberHere(MOST_PEOPLE - 1);
                int w = nextNumber(MOST_WALLS - 1);
                if (found == 0) {
                    told.addAct(p, w);
                }
            }
        }

        /** Whether there is a TOKEN, or the end, and no FAULT yet. */
        private boolean nextToken() {
            if (found == 0) {
                tape.readToken();
                if (tape.token == NO_TOKEN) {
                    refuse(1);
                }
            }
            return found == 0;
        }

        private int nextNumber(int most) {
            return nextToken() ? numberHere(most) : NONE;
        }

        private int numberHere(int most) {
            if (found == 0 && tape.token != NUMBER) {
                refuse(2);
            }
            if (found == 0 && tape.value > most) {
                refuse(3);
            }
            return found == 0 ? tape.value : NONE;
        }

        private void takeSign() {
            if (found == 0 && tape.token != SIGN) {
                refuse(2);
            }
        }

        /** The first FAULT alone counts. */
        private void refuse(int fault) {
            if (found == 0) {
                found = fault;
                foundAt = tape.place;
            }
        }
    }
}
