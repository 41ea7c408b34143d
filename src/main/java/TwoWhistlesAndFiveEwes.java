import java.util.Arrays;

/**
 * A hill of cells with walls and a pen, a dog that is whistled this way and that, and ewes by kinds that go from it.
 * What each method promises stands in ../shared/DOC.md; words in capitals are that document's terms.
 */
public final class TwoWhistlesAndFiveEwes {
    public static final int NONE = -1;

    private static final int BAD = -2;
    private static final int OTHER = -3;
    private static final int NOTHING = -4;
    private static final int STUCK = -5;
    private static final int FULL = -6;
    private static final int REFUSAL_COUNT = 5;

    private static final int LEAST_SIDE = 3;
    private static final int MOST_SIDE = 7;
    private static final int CELL_LIMIT = 67;
    private static final int EWE_LIMIT = 5;
    private static final int A_LIMIT = 9;
    private static final int WIND_LIMIT = 12;
    private static final int TAPE_LIMIT = 250;
    private static final int SHELF_COUNT = 8;
    private static final int ROW_LIMIT = 40;
    private static final int SORT_COUNT = 5;
    private static final int HELD_EWE = 10;
    private static final int LAST_BYTE = 255;
    private static final int FAULT_BASE = -20;

    private static final int FEWEST_LIMIT = 6;
    private static final int MOST_LIMIT = 5;
    private static final int ODDS_LIMIT = 6;
    private static final int WAYS_LIMIT = 6;
    private static final int LATE_LIMIT = 3;
    private static final int REACH_LIMIT = 99;
    private static final int NEAR_LIMIT = 12;
    private static final int EVENING_LIMIT = 60;
    private static final int FULL_ODDS = 1000000;

    private static final int COMMAND_COUNT = 5;
    /** What a COMMAND adds to a CELL. */
    private static final int[] SHIFTS = {0, -10, 10, -1, 1};

    private static final int PLAIN = 0;
    private static final int LEADER = 5;
    private static final int KIND_COUNT = 6;
    /** The KIND that each KIND is under. */
    private static final int[] UNDER = {NONE, 0, 0, 1, 2, 0};
    /** How many CELLS a EWE of each KIND may go in a TURN. */
    private static final int[] TIMES = {1, 2, 1, 3, 1, 1};
    /** From how many STEPS on it goes from THE DOG (a LEADER's are its a). */
    private static final int[] FEARS = {3, 3, 3, 5, 3, NONE};
    /** From how many STEPS on it stares instead. */
    private static final int[] STARES = {NONE, NONE, 1, NONE, 2, NONE};
    private static final int GRAZING_BEYOND = 3;
    private static final int FLOCK_STEPS = 2;

    private final Hill now;
    private final Hill kept;
    private boolean isKept;
    private final Tape tape;
    private final Shelf[] shelves;
    private final int[] refusals;
    private final Spots trial;
    private final Search search;

    public TwoWhistlesAndFiveEwes() {
        now = new Hill();
        kept = new Hill();
        isKept = false;
        tape = new Tape();
        shelves = new Shelf[SHELF_COUNT];
        for (int s = 0; s < SHELF_COUNT; s++) {
            shelves[s] = new Shelf();
        }
        refusals = new int[REFUSAL_COUNT];
        trial = new Spots();
        search = new Search();
    }

    // SHELVES

    public int row(int s, int sort, int n) {
        if (!isShelf(s) || sort < 0 || sort >= SORT_COUNT || n < 0 || n > ROW_LIMIT) {
            return refuse(BAD);
        }
        shelves[s].takeRow(sort, n);
        return 1;
    }

    public int set(int s, int i, long v) {
        int fault = faultOfRow(s, 0, ROW_LIMIT);
        if (fault != 0) {
            return refuse(fault);
        }
        if (i < 0 || i >= shelves[s].size) {
            return refuse(BAD);
        }
        shelves[s].elements[i] = cutTo(shelves[s].held, v);
        return 1;
    }

    public int copy(int p, int q, int i, int j, int n) {
        if (!isShelf(p) || !isShelf(q)) {
            return refuse(BAD);
        }
        Shelf from = shelves[p];
        Shelf to = shelves[q];
        boolean areTwoSorts = from.hasRow() && to.hasRow() && from.held != to.held;
        if (from.hasEwe() || to.hasEwe() || areTwoSorts) {
            return refuse(OTHER);
        }
        if (!from.hasRow() || !to.hasRow()) {
            return refuse(NOTHING);
        }
        if (!from.hasPart(i, n) || !to.hasPart(j, n)) {
            return refuse(BAD);
        }
        System.arraycopy(from.elements, i, to.elements, j, n);
        return n;
    }

    public long element(int s, int i) {
        if (!isShelf(s) || !shelves[s].hasRow() || i < 0 || i >= shelves[s].size) {
            return 0;
        }
        return shelves[s].elements[i];
    }

    public int holds(int s) {
        return isShelf(s) ? shelves[s].held : NONE;
    }

    public int show(int s, int ewe) {
        if (!isShelf(s) || ewe != NONE && !now.isEwe(ewe)) {
            return refuse(BAD);
        }
        shelves[s].held = ewe == NONE ? NONE : HELD_EWE + ewe;
        return 1;
    }

    public int says(int s, int kind) {
        if (!isShelf(s) || !isKind(kind)) {
            return refuse(BAD);
        }
        Shelf shelf = shelves[s];
        if (shelf.hasRow()) {
            return refuse(OTHER);
        }
        if (!shelf.hasEwe()) {
            return refuse(NOTHING);
        }
        int ewe = shelf.held - HELD_EWE;
        if (!now.isEwe(ewe) || !isUnder(now.kinds[ewe], kind)) {
            return refuse(OTHER);
        }
        return kind == PLAIN ? now.as[ewe] : now.goalOf(now.spots, ewe, now.kinds[ewe]);
    }

    // THE HILL

    public int side(int n) {
        if (n < LEAST_SIDE || n < now.side || n > MOST_SIDE) {
            return refuse(BAD);
        }
        int was = now.side;
        now.side = n;
        return was;
    }

    public int wall(int cell, boolean is) {
        if (!now.isCell(cell)) {
            return refuse(BAD);
        }
        if (is && !now.mayBeWall(cell)) {
            return refuse(STUCK);
        }
        int had = now.isWall(cell) ? 1 : 0;
        now.setWall(cell, is);
        return had;
    }

    public int pen(int cell) {
        if (!now.isCell(cell)) {
            return refuse(BAD);
        }
        if (!now.mayBePen(cell)) {
            return refuse(STUCK);
        }
        int was = now.pen;
        now.pen = cell;
        return was;
    }

    public int dog(int cell) {
        if (!now.isCell(cell)) {
            return refuse(BAD);
        }
        if (!now.mayBeDogs(cell)) {
            return refuse(STUCK);
        }
        int was = now.spots.dog;
        now.spots.dog = cell;
        return was;
    }

    public int ewe(int kind, int a, int cell) {
        if (!isKind(kind) || a < 0 || a > A_LIMIT || !now.isCell(cell)) {
            return refuse(BAD);
        }
        if (!now.isOpen(cell)) {
            return refuse(STUCK);
        }
        if (now.count >= EWE_LIMIT) {
            return refuse(FULL);
        }
        return now.addEwe(kind, a, cell);
    }

    public int move(int ewe, int cell) {
        if (!now.isEwe(ewe) || !now.isCell(cell)) {
            return refuse(BAD);
        }
        if (!now.isOpen(cell)) {
            return refuse(STUCK);
        }
        int was = now.spots.cells[ewe];
        now.spots.cells[ewe] = cell;
        return was;
    }

    public int wind(int v) {
        if (v < 0 || v > WIND_LIMIT) {
            return refuse(BAD);
        }
        int was = now.wind;
        now.wind = v;
        return was;
    }

    public int feed(int letter) {
        if (letter < 0 || letter > LAST_BYTE) {
            return refuse(BAD);
        }
        if (tape.size >= TAPE_LIMIT) {
            return refuse(FULL);
        }
        tape.bytes[tape.size] = letter;
        tape.size++;
        return tape.size;
    }

    public int wipe() {
        int was = tape.size;
        tape.size = 0;
        return was;
    }

    public int hill() {
        int read = tape.readOnto(now);
        tape.size = 0;
        if (read < 0) {
            refuse(BAD);
            return read;
        }
        now.setTo(tape.draft);
        return read;
    }

    public int eweOf(int ewe, int what) {
        if (!now.isEwe(ewe)) {
            return refuse(BAD);
        }
        int cell = now.spots.cells[ewe];
        switch (what) {
            case 0: return now.kinds[ewe];
            case 1: return now.as[ewe];
            case 2: return cell;
            case 3: return cell == now.pen ? 1 : 0;
            case 4: return stepsBetween(cell, now.spots.dog);
            case 5: return stepsBetween(cell, now.pen);
            default: return refuse(BAD);
        }
    }

    public int hasWall(int cell) {
        if (!now.isCell(cell)) {
            return refuse(BAD);
        }
        return now.isWall(cell) ? 1 : 0;
    }

    // WHAT COMES OF IT

    public int fewest(int m, int i) {
        if (m < 0 || m > FEWEST_LIMIT || i < NONE) {
            return refuse(BAD);
        }
        int length = 0;
        search.levels[0].setTo(now.spots);
        while (length <= m && !Search.bringsAll(search, now, 0, length)) {
            length++;
        }
        boolean isFound = length <= m;
        if (i == NONE) {
            return isFound ? length : NONE;
        }
        if (!isFound || i >= length) {
            return refuse(STUCK);
        }
        return search.tried[i];
    }

    public int most(int m, int i) {
        if (m < 0 || m > MOST_LIMIT || i < NONE || i >= m) {
            return refuse(BAD);
        }
        search.most = NONE;
        search.levels[0].setTo(now.spots);
        Search.seekMost(search, now, 0, m);
        return i == NONE ? search.most : search.found[i];
    }

    public int stand() {
        int stand = NONE;
        int least = 0;
        for (int cell = 0; cell < CELL_LIMIT; cell++) {
            if (now.mayBeDogs(cell)) {
                trial.setTo(now.spots);
                trial.dog = cell;
                now.takeTurn(trial, 0);
                int sum = now.stepsToPen(trial);
                if (stand == NONE || sum < least) {
                    stand = cell;
                    least = sum;
                }
            }
        }
        return stand;
    }

    public int shy(int ewe) {
        if (!now.isEwe(ewe)) {
            return refuse(BAD);
        }
        int most = NONE;
        trial.setTo(now.spots);
        for (int cell = 0; cell < CELL_LIMIT; cell++) {
            if (now.mayBeDogs(cell)) {
                trial.dog = cell;
                if (now.wouldGo(trial, ewe)) {
                    most = Math.max(most, stepsBetween(cell, now.spots.cells[ewe]));
                }
            }
        }
        return most;
    }

    public int late(int s, int n, int l) {
        if (l < 0 || l > LATE_LIMIT) {
            return refuse(BAD);
        }
        int fault = faultOfCommands(s, n, ROW_LIMIT);
        if (fault != 0) {
            return refuse(fault);
        }
        trial.setTo(now.spots);
        for (int t = 0; t < l; t++) {
            now.takeTurn(trial, 0);
        }
        takeTold(trial, shelves[s], n);
        return now.countIn(trial);
    }

    public int bare() {
        long taken = now.walls | now.eweBits();
        int bits = 0;
        for (int i = 0; i < now.side; i++) {
            if ((taken & Hill.rowBits(i)) == 0) {
                bits |= 1 << i;
            }
            if ((taken & Hill.columnBits(i)) == 0) {
                bits |= 1 << (MOST_SIDE + i);
            }
        }
        return bits;
    }

    public int odds(int s, int n) {
        int fault = faultOfCommands(s, n, ODDS_LIMIT);
        if (fault != 0) {
            return refuse(fault);
        }
        long all = 1;
        for (int t = 0; t < n; t++) {
            all *= WIND_LIMIT;
        }
        long fit = 0;
        for (int lost = 0; lost < 1 << n; lost++) {
            fit += weightIfAllIn(shelves[s], n, lost);
        }
        return all < 1 ? 0 : (int) (fit * FULL_ODDS / all);
    }

    public int ewes(int what) {
        switch (what) {
            case 0: return now.apart(now.spots);
            case 1: return now.flock();
            case 2: return now.nearest();
            case 3: return now.moved(now.spots);
            default: return refuse(BAD);
        }
    }

    public int path(int cell) {
        if (!now.isCell(cell)) {
            return refuse(BAD);
        }
        long wanted = bitOf(cell);
        long ground = now.dogsGround();
        long reached = bitOf(now.spots.dog);
        for (int n = 0; n < CELL_LIMIT; n++) {
            if ((reached & wanted) != 0) {
                return n;
            }
            reached = Hill.spread(reached, ground);
        }
        return NONE;
    }

    public int reach(int n) {
        if (n < 0 || n > REACH_LIMIT) {
            return refuse(BAD);
        }
        long ground = now.dogsGround();
        long reached = bitOf(now.spots.dog);
        for (int t = 0; t < n; t++) {
            reached = Hill.spread(reached, ground);
        }
        return Long.bitCount(reached);
    }

    public int ways(int n) {
        if (n < 0 || n > WAYS_LIMIT) {
            return refuse(BAD);
        }
        return search.countRows(now, n);
    }

    public int open(int cell) {
        if (!now.isCell(cell)) {
            return refuse(BAD);
        }
        int open = 0;
        for (int way = 1; way < COMMAND_COUNT; way++) {
            if (now.isOpen(cell + SHIFTS[way])) {
                open++;
            }
        }
        return open;
    }

    public int still(int what) {
        if (what < 0 || what > 1) {
            return refuse(BAD);
        }
        int stillCells = 0;
        int mostMoved = 0;
        trial.setTo(now.spots);
        for (int cell = 0; cell < CELL_LIMIT; cell++) {
            if (now.mayBeDogs(cell)) {
                trial.dog = cell;
                int moved = Integer.bitCount(now.moved(trial));
                mostMoved = Math.max(mostMoved, moved);
                stillCells += moved == 0 ? 1 : 0;
            }
        }
        return what == 0 ? stillCells : mostMoved;
    }

    public int held() {
        return now.notIn() & ~grazing() & ~now.moved(now.spots);
    }

    public int grazing() {
        int bits = 0;
        for (int e = 0; e < now.count; e++) {
            if (!now.isIn(now.spots, e) && stepsBetween(now.spots.cells[e], now.spots.dog) > GRAZING_BEYOND) {
                bits |= 1 << e;
            }
        }
        return bits;
    }

    public int last() {
        int last = NONE;
        int most = NONE;
        for (int e = 0; e < now.count; e++) {
            int far = stepsBetween(now.spots.cells[e], now.pen);
            if (far > most) {
                last = e;
                most = far;
            }
        }
        return last;
    }

    public int near(int ewe, int n) {
        if (!now.isEwe(ewe) || n < 0 || n > NEAR_LIMIT) {
            return refuse(BAD);
        }
        int bits = 0;
        for (int e = 0; e < now.count; e++) {
            if (e != ewe && stepsBetween(now.spots.cells[e], now.spots.cells[ewe]) <= n) {
                bits |= 1 << e;
            }
        }
        return bits;
    }

    public int steps() {
        return now.stepsToPen(now.spots);
    }

    public int best() {
        int best = NONE;
        int least = 0;
        for (int command = 0; command < COMMAND_COUNT; command++) {
            if (now.canDo(now.spots.dog, command)) {
                trial.setTo(now.spots);
                now.takeTurn(trial, command);
                int sum = now.stepsToPen(trial);
                if (best == NONE || sum < least) {
                    best = command;
                    least = sum;
                }
            }
        }
        return best;
    }

    public int kinds(int s, int t, int n, int ewe) {
        if (!isShelf(s) || !isShelf(t) || n < 0 || n > ROW_LIMIT || !now.isEwe(ewe)) {
            return refuse(BAD);
        }
        Shelf dogs = shelves[s];
        Shelf own = shelves[t];
        if (dogs.hasEwe() || own.hasEwe()) {
            return refuse(OTHER);
        }
        if (!dogs.hasRow() || !own.hasRow()) {
            return refuse(NOTHING);
        }
        if (dogs.size < n || own.size < n) {
            return refuse(BAD);
        }
        if (now.isIn(now.spots, ewe) || !areCells(dogs, n) || !areCells(own, n)) {
            return refuse(STUCK);
        }
        int bits = 0;
        for (int kind = 0; kind < KIND_COUNT; kind++) {
            if (goesSo(ewe, kind, dogs, own, n)) {
                bits |= 1 << kind;
            }
        }
        return bits;
    }

    public int judge(int s, int n) {
        int fault = faultOfRow(s, n, ROW_LIMIT);
        if (fault != 0) {
            return refuse(fault);
        }
        return firstWrong(shelves[s], n);
    }

    public int behind(int s, int n, int what) {
        boolean isOfEwe = what >= HELD_EWE && what < HELD_EWE + EWE_LIMIT && now.isEwe(what - HELD_EWE);
        if (!isOfEwe && (what < 0 || what > 2)) {
            return refuse(BAD);
        }
        int fault = faultOfDoable(s, n);
        if (fault != 0) {
            return refuse(fault);
        }
        trial.setTo(now.spots);
        takeTold(trial, shelves[s], n);
        switch (what) {
            case 0: return now.countIn(trial);
            case 1: return trial.dog;
            case 2: return now.apart(trial);
            default: return isOfEwe ? trial.cells[what - HELD_EWE] : NONE;
        }
    }

    // IN TRUTH

    public int done(int s, int n) {
        int fault = faultOfDoable(s, n);
        if (fault != 0) {
            return refuse(fault);
        }
        takeTold(now.spots, shelves[s], n);
        now.turns += n;
        return now.countIn(now.spots);
    }

    public int turn(int command) {
        if (!isCommand(command)) {
            return refuse(BAD);
        }
        if (!now.canDo(now.spots.dog, command)) {
            return refuse(STUCK);
        }
        now.takeTurn(now.spots, command);
        now.turns++;
        return now.countIn(now.spots);
    }

    public int evening(int n) {
        if (n < 1 || n > EVENING_LIMIT) {
            return refuse(BAD);
        }
        int ahead = now.countIn(now.spots);
        for (int t = 0; t < n; t++) {
            int whistled = now.draw(COMMAND_COUNT);
            boolean isHeard = now.draw(WIND_LIMIT) >= now.wind;
            now.takeTurn(now.spots, isHeard ? whistled : now.spots.did);
            now.turns++;
        }
        return now.countIn(now.spots) - ahead;
    }

    public int seed(int v) {
        int was = now.seed;
        now.seed = v;
        return was;
    }

    public int image() {
        kept.setTo(now);
        isKept = true;
        return 1;
    }

    public int back() {
        if (!isKept) {
            return refuse(STUCK);
        }
        now.setTo(kept);
        for (int s = 0; s < SHELF_COUNT; s++) {
            if (shelves[s].held >= HELD_EWE + now.count) {
                shelves[s].held = NONE;
            }
        }
        return 1;
    }

    public int status(int what) {
        switch (what) {
            case 0: return now.count;
            case 1: return now.side;
            case 2: return now.pen;
            case 3: return now.spots.dog;
            case 4: return now.wind;
            case 5: return now.turns;
            case 6: return now.countIn(now.spots);
            case 7: return Long.bitCount(now.walls);
            case 8: return now.spots.did;
            case 9: return tape.size;
            case 10: return now.seed;
            case 11: return countFilledShelves();
            default: return what >= 12 && what < 12 + REFUSAL_COUNT ? refusals[what - 12] : NONE;
        }
    }

    // refusals and told ROWS

    private int refuse(int number) {
        int place = BAD - number;
        if (place >= 0 && place < REFUSAL_COUNT) {
            refusals[place]++;
        }
        return number;
    }

    private static boolean isShelf(int s) {
        return s >= 0 && s < SHELF_COUNT;
    }

    private static boolean isKind(int kind) {
        return kind >= 0 && kind < KIND_COUNT;
    }

    private static boolean isCommand(long command) {
        return command >= 0 && command < COMMAND_COUNT;
    }

    /** The refusal, or 0, of asking for the first n elements, limit at most, of the ROW in SHELF s. */
    private int faultOfRow(int s, int n, int limit) {
        if (!isShelf(s) || n < 0 || n > limit) {
            return BAD;
        }
        if (shelves[s].hasEwe()) {
            return OTHER;
        }
        if (!shelves[s].hasRow()) {
            return NOTHING;
        }
        return shelves[s].size < n ? BAD : 0;
    }

    private int faultOfCommands(int s, int n, int limit) {
        int fault = faultOfRow(s, n, limit);
        if (fault != 0) {
            return fault;
        }
        for (int i = 0; i < n; i++) {
            if (!isCommand(shelves[s].elements[i])) {
                return STUCK;
            }
        }
        return 0;
    }

    private int faultOfDoable(int s, int n) {
        int fault = faultOfRow(s, n, ROW_LIMIT);
        if (fault != 0) {
            return fault;
        }
        return firstWrong(shelves[s], n) == NONE ? 0 : STUCK;
    }

    /** WRONG; where THE DOG can go doesn't depend on the EWES. */
    private int firstWrong(Shelf told, int n) {
        int cell = now.spots.dog;
        for (int i = 0; i < n; i++) {
            long command = told.elements[i];
            if (!isCommand(command) || !now.canDo(cell, (int) command)) {
                return i;
            }
            cell += SHIFTS[(int) command];
        }
        return NONE;
    }

    private void takeTold(Spots spots, Shelf told, int n) {
        for (int i = 0; i < n; i++) {
            now.takeTurn(spots, (int) told.elements[i]);
        }
    }

    /** Of 12 to the power of n ways, those in which just the lost COMMANDS (bits) aren't heard; 0 if not all are IN then. */
    private long weightIfAllIn(Shelf told, int n, int lost) {
        long weight = 1;
        trial.setTo(now.spots);
        for (int i = 0; i < n; i++) {
            boolean isHeard = (lost >> i & 1) == 0;
            weight *= isHeard ? WIND_LIMIT - now.wind : now.wind;
            now.takeTurn(trial, isHeard ? (int) told.elements[i] : trial.did);
        }
        return now.countIn(trial) == now.count ? weight : 0;
    }

    private boolean areCells(Shelf told, int n) {
        for (int i = 0; i < n; i++) {
            long cell = told.elements[i];
            if (cell < 0 || cell >= CELL_LIMIT || !now.isCell((int) cell)) {
                return false;
            }
        }
        return true;
    }

    /** Whether a EWE, were it of a KIND, would go to its own CELLS, THE DOG being at dogs' CELLS. */
    private boolean goesSo(int ewe, int kind, Shelf dogs, Shelf own, int n) {
        trial.setTo(now.spots);
        for (int i = 0; i < n; i++) {
            trial.dog = (int) dogs.elements[i];
            int cell = now.goalOf(trial, ewe, kind);
            if (cell != own.elements[i]) {
                return false;
            }
            trial.cells[ewe] = cell;
        }
        return true;
    }

    private int countFilledShelves() {
        int filled = 0;
        for (int s = 0; s < SHELF_COUNT; s++) {
            if (shelves[s].held != NONE) {
                filled++;
            }
        }
        return filled;
    }

    /** The lowest bits of v that an element of a SORT keeps. */
    private static long cutTo(int sort, long v) {
        switch (sort) {
            case 0: return (byte) v;
            case 1: return (short) v;
            case 2: return (int) v;
            case 4: return v != 0 ? 1 : 0;
            default: return v;
        }
    }

    // CELLS and KINDS

    private static int stepsBetween(int cell, int other) {
        return Math.abs(cell / 10 - other / 10) + Math.abs(cell % 10 - other % 10);
    }

    /** A CELL's bit: 8 bits a ROW, so that bit 7 of each stays free and no shift comes round to another ROW. */
    private static long bitOf(int cell) {
        return 1L << (cell / 10 * 8 + cell % 10);
    }

    private static boolean isUnder(int kind, int upper) {
        int at = kind;
        for (int up = 0; up < KIND_COUNT && isKind(at); up++) {
            if (at == upper) {
                return true;
            }
            at = UNDER[at];
        }
        return false;
    }

    /** What a TURN changes: where THE DOG and the EWES are, and what THE DOG did. */
    private static final class Spots {
        int dog;
        int did;
        final int[] cells;

        Spots() {
            dog = 55;
            did = 0;
            cells = new int[EWE_LIMIT];
        }

        void setTo(Spots other) {
            dog = other.dog;
            did = other.did;
            System.arraycopy(other.cells, 0, cells, 0, EWE_LIMIT);
        }
    }

    /** All that an image keeps. */
    private static final class Hill {
        int side;
        int pen;
        int wind;
        int turns;
        int seed;
        long walls;
        int count;
        final int[] kinds;
        final int[] as;
        final Spots spots;

        Hill() {
            side = 6;
            pen = 0;
            wind = 2;
            turns = 0;
            seed = 1;
            walls = 0;
            count = 0;
            kinds = new int[EWE_LIMIT];
            as = new int[EWE_LIMIT];
            spots = new Spots();
        }

        void setTo(Hill other) {
            side = other.side;
            pen = other.pen;
            wind = other.wind;
            turns = other.turns;
            seed = other.seed;
            walls = other.walls;
            count = other.count;
            System.arraycopy(other.kinds, 0, kinds, 0, EWE_LIMIT);
            System.arraycopy(other.as, 0, as, 0, EWE_LIMIT);
            spots.setTo(other.spots);
        }

        boolean isCell(int cell) {
            return cell >= 0 && cell / 10 < side && cell % 10 < side;
        }

        boolean isWall(int cell) {
            return (walls & bitOf(cell)) != 0;
        }

        void setWall(int cell, boolean is) {
            walls = is ? walls | bitOf(cell) : walls & ~bitOf(cell);
        }

        boolean isOpen(int cell) {
            return isCell(cell) && (walls & bitOf(cell)) == 0;
        }

        boolean mayBeDogs(int cell) {
            return cell != pen && isOpen(cell);
        }

        boolean mayBeWall(int cell) {
            return isCell(cell) && cell != pen && cell != spots.dog && !hasEweAt(cell);
        }

        boolean mayBePen(int cell) {
            // a EWE that is IN keeps THE PEN where it is
            return isOpen(cell) && cell != spots.dog && !hasEweAt(cell) && !hasEweAt(pen);
        }

        boolean isEwe(int ewe) {
            return ewe >= 0 && ewe < count;
        }

        boolean hasEweAt(int cell) {
            for (int e = 0; e < count; e++) {
                if (spots.cells[e] == cell) {
                    return true;
                }
            }
            return false;
        }

        /** The new EWE's number; the caller has looked whether there is room. */
        int addEwe(int kind, int a, int cell) {
            int ewe = count;
            kinds[ewe] = kind;
            as[ewe] = a;
            spots.cells[ewe] = cell;
            count++;
            return ewe;
        }

        boolean isIn(Spots at, int ewe) {
            return at.cells[ewe] == pen;
        }

        int countIn(Spots at) {
            return countWithin(at, 0);
        }

        /** How many EWES could come to THE PEN in so many TURNS, were nothing in their way. */
        int countWithin(Spots at, int turnsLeft) {
            int within = 0;
            for (int e = 0; e < count; e++) {
                if (stepsBetween(at.cells[e], pen) <= turnsLeft * TIMES[kinds[e]]) {
                    within++;
                }
            }
            return within;
        }

        int stepsToPen(Spots at) {
            int sum = 0;
            for (int e = 0; e < count; e++) {
                sum += stepsBetween(at.cells[e], pen);
            }
            return sum;
        }

        boolean canDo(int dogsCell, int command) {
            return command == 0 || mayBeDogs(dogsCell + SHIFTS[command]);
        }

        /** A TURN; what THE DOG can't do counts as done all the same. */
        void takeTurn(Spots at, int command) {
            if (canDo(at.dog, command)) {
                at.dog += SHIFTS[command];
            }
            at.did = command;
            for (int e = 0; e < count; e++) {
                at.cells[e] = goalOf(at, e, kinds[e]);
            }
        }

        /** Where a EWE comes in a TURN, were it of a KIND and all others where they are. */
        int goalOf(Spots at, int ewe, int kind) {
            int cell = at.cells[ewe];
            int fears = kind == LEADER ? as[ewe] : FEARS[kind];
            int mark = kind == LEADER ? pen : leaderOf(at, ewe);
            for (int t = 0; t < TIMES[kind] && cell != pen; t++) {
                int away = stepsBetween(cell, at.dog);
                if (away <= fears && away > STARES[kind]) {
                    cell = nextFrom(cell, at.dog, mark);
                }
            }
            return cell;
        }

        private int leaderOf(Spots at, int ewe) {
            for (int e = 0; e < count; e++) {
                if (e != ewe && kinds[e] == LEADER && at.cells[e] != pen) {
                    return at.cells[e];
                }
            }
            return NONE;
        }

        /** The CELL next to this one and farther from THE DOG that is nearest to the mark, of several the first. */
        private int nextFrom(int cell, int dogsCell, int mark) {
            int away = stepsBetween(cell, dogsCell);
            int next = cell;
            int least = 0;
            for (int way = 1; way < COMMAND_COUNT; way++) {
                int beside = cell + SHIFTS[way];
                if (isOpen(beside) && stepsBetween(beside, dogsCell) > away) {
                    int far = mark == NONE ? 0 : stepsBetween(beside, mark);
                    if (next == cell || far < least) {
                        next = beside;
                        least = far;
                    }
                }
            }
            return next;
        }

        boolean wouldGo(Spots at, int ewe) {
            return goalOf(at, ewe, kinds[ewe]) != at.cells[ewe];
        }

        /** MOVED. */
        int moved(Spots at) {
            int bits = 0;
            for (int e = 0; e < count; e++) {
                if (wouldGo(at, e)) {
                    bits |= 1 << e;
                }
            }
            return bits;
        }

        int notIn() {
            int bits = 0;
            for (int e = 0; e < count; e++) {
                if (!isIn(spots, e)) {
                    bits |= 1 << e;
                }
            }
            return bits;
        }

        /** The STEPS from a EWE to the farthest one that isn't IN. */
        private int farthestFrom(Spots at, int ewe) {
            int most = 0;
            for (int e = 0; e < count; e++) {
                if (!isIn(at, e)) {
                    most = Math.max(most, stepsBetween(at.cells[e], at.cells[ewe]));
                }
            }
            return most;
        }

        int apart(Spots at) {
            int most = 0;
            for (int e = 0; e < count; e++) {
                if (!isIn(at, e)) {
                    most = Math.max(most, farthestFrom(at, e));
                }
            }
            return most;
        }

        int flock() {
            int bits = 0;
            for (int e = 0; e < count; e++) {
                if (!isIn(spots, e) && farthestFrom(spots, e) > FLOCK_STEPS) {
                    bits |= 1 << e;
                }
            }
            return bits;
        }

        int nearest() {
            int nearest = NONE;
            int least = 0;
            for (int e = 0; e < count; e++) {
                int away = stepsBetween(spots.cells[e], spots.dog);
                if (!isIn(spots, e) && (nearest == NONE || away < least)) {
                    nearest = e;
                    least = away;
                }
            }
            return nearest;
        }

        int draw(int n) {
            seed = seed * 1103515245 + 12345;
            return n < 1 ? 0 : (seed >>> 16) % n;
        }

        long eweBits() {
            long bits = 0;
            for (int e = 0; e < count; e++) {
                bits |= bitOf(spots.cells[e]);
            }
            return bits;
        }

        /** The CELLS (bits) on which THE DOG may stand. */
        long dogsGround() {
            long bits = 0;
            for (int cell = 0; cell < CELL_LIMIT; cell++) {
                if (mayBeDogs(cell)) {
                    bits |= bitOf(cell);
                }
            }
            return bits;
        }

        static long rowBits(int i) {
            return 0xFFL << 8 * i;
        }

        static long columnBits(int i) {
            return 0x0101010101010101L << i;
        }

        /** The reached CELLS (bits) and those of the ground next to them. */
        static long spread(long reached, long ground) {
            long beside = reached << 8 | reached >>> 8 | reached << 1 | reached >>> 1;
            return reached | beside & ground;
        }
    }

    /** Tries ROWS of COMMANDS; each level of the recursion has its own Spots, made once. */
    private static final class Search {
        final Spots[] levels;
        final int[] tried;
        final int[] found;
        int most;
        private int[] rows;
        private int[] rowsThen;

        Search() {
            levels = new Spots[FEWEST_LIMIT + 1];
            for (int depth = 0; depth <= FEWEST_LIMIT; depth++) {
                levels[depth] = new Spots();
            }
            tried = new int[FEWEST_LIMIT];
            found = new int[FEWEST_LIMIT];
            most = NONE;
            rows = new int[CELL_LIMIT];
            rowsThen = new int[CELL_LIMIT];
        }

        /** Sets the Spots behind a COMMAND at the next level; false: THE DOG can't do it. */
        private boolean tryCommand(Hill hill, int depth, int command) {
            if (!hill.canDo(levels[depth].dog, command)) {
                return false;
            }
            tried[depth] = command;
            levels[depth + 1].setTo(levels[depth]);
            hill.takeTurn(levels[depth + 1], command);
            return true;
        }

        /** Whether some ROW, going on from this level to the length, brings all IN; tried is then the first such. */
        private static boolean bringsAll(Search search, Hill hill, int depth, int length) {
            // a EWE too far from THE PEN for what is left of the ROW spares trying all its ends
            if (depth > FEWEST_LIMIT || hill.countWithin(search.levels[depth], length - depth) < hill.count) {
                return false;
            }
            if (depth >= length) {
                return true;
            }
            for (int command = 0; command < COMMAND_COUNT; command++) {
                if (search.tryCommand(hill, depth, command) && bringsAll(search, hill, depth + 1, length)) {
                    return true;
                }
            }
            return false;
        }

        /** Keeps the first ROW of this length by which more are IN than by those tried ahead of it. */
        private static void seekMost(Search search, Hill hill, int depth, int length) {
            if (depth > FEWEST_LIMIT || hill.countWithin(search.levels[depth], length - depth) <= search.most) {
                return;
            }
            if (depth >= length) {
                search.most = hill.countIn(search.levels[depth]);
                System.arraycopy(search.tried, 0, search.found, 0, FEWEST_LIMIT);
                return;
            }
            for (int command = 0; command < COMMAND_COUNT; command++) {
                if (search.tryCommand(hill, depth, command)) {
                    seekMost(search, hill, depth + 1, length);
                }
            }
        }

        /** How many ROWS of n COMMANDS THE DOG can do, counted by the CELLS to which they bring it. */
        int countRows(Hill hill, int n) {
            for (int cell = 0; cell < CELL_LIMIT; cell++) {
                rows[cell] = cell == hill.spots.dog ? 1 : 0;
            }
            for (int t = 0; t < n; t++) {
                Arrays.fill(rowsThen, 0);
                for (int cell = 0; cell < CELL_LIMIT; cell++) {
                    if (rows[cell] > 0) {
                        addRowsFrom(hill, cell);
                    }
                }
                int[] spare = rows;
                rows = rowsThen;
                rowsThen = spare;
            }
            int sum = 0;
            for (int cell = 0; cell < CELL_LIMIT; cell++) {
                sum += rows[cell];
            }
            return sum;
        }

        private void addRowsFrom(Hill hill, int cell) {
            for (int command = 0; command < COMMAND_COUNT; command++) {
                int next = cell + SHIFTS[command];
                if (next >= 0 && next < CELL_LIMIT && hill.canDo(cell, command)) {
                    rowsThen[next] += rows[cell];
                }
            }
        }
    }

    /** A SHELF with its own room for a ROW, so that a new ROW makes no new array. */
    private static final class Shelf {
        /** What it holds, told as holds tells it. */
        int held;
        int size;
        final long[] elements;

        Shelf() {
            held = NONE;
            size = 0;
            elements = new long[ROW_LIMIT];
        }

        boolean hasEwe() {
            return held >= HELD_EWE;
        }

        boolean hasRow() {
            return held >= 0 && held < SORT_COUNT;
        }

        void takeRow(int sort, int n) {
            held = sort;
            size = n;
            Arrays.fill(elements, 0);
        }

        boolean hasPart(int from, int n) {
            return n >= 0 && n <= size && from >= 0 && from <= size - n;
        }
    }

    /** THE TAPE, and the reading of it as a HILL. */
    private static final class Tape {
        private static final int END = 0;
        private static final int WORD = 1;
        private static final int NUMBER = 2;
        private static final int SIGN = 3;
        private static final int NO_TOKEN = 4;
        private static final int MOST_DIGITS = 2;

        final int[] bytes;
        int size;
        /** What there is and all STATEMENTS read so far: nothing comes of them if a later one has a FAULT. */
        final Hill draft;
        private int token;
        private int start;
        private int end;

        Tape() {
            bytes = new int[TAPE_LIMIT];
            size = 0;
            draft = new Hill();
            token = END;
            start = 0;
            end = 0;
        }

        /** How many STATEMENTS the draft has got, or -20 less the FAULT. */
        int readOnto(Hill hill) {
            draft.setTo(hill);
            end = 0;
            for (int statements = 1; statements <= TAPE_LIMIT; statements++) {
                nextToken();
                if (!readStatement()) {
                    break;
                }
                nextToken();
                if (token == END) {
                    return statements;
                }
                if (token != SIGN) {
                    break;
                }
            }
            return FAULT_BASE - start;
        }

        /** False: the token that was read last can't stand there. */
        private boolean readStatement() {
            if (token != WORD) {
                return false;
            }
            if (isWord("side")) {
                return readSide();
            }
            if (isWord("wall")) {
                return readWall();
            }
            if (isWord("gap")) {
                return readGap();
            }
            if (isWord("pen")) {
                return readPen();
            }
            if (isWord("dog")) {
                return readDog();
            }
            if (isWord("ewe")) {
                return readEwe();
            }
            return isWord("wind") && readWind();
        }

        private boolean readSide() {
            int n = nextNumber();
            if (n < draft.side || n > MOST_SIDE) {
                return false;
            }
            draft.side = n;
            return true;
        }

        private boolean readWall() {
            int cell = nextNumber();
            if (!draft.mayBeWall(cell)) {
                return false;
            }
            draft.setWall(cell, true);
            return true;
        }

        private boolean readGap() {
            int cell = nextNumber();
            if (!draft.isCell(cell)) {
                return false;
            }
            draft.setWall(cell, false);
            return true;
        }

        private boolean readPen() {
            int cell = nextNumber();
            if (!draft.mayBePen(cell)) {
                return false;
            }
            draft.pen = cell;
            return true;
        }

        private boolean readDog() {
            int cell = nextNumber();
            if (!draft.mayBeDogs(cell)) {
                return false;
            }
            draft.spots.dog = cell;
            return true;
        }

        private boolean readEwe() {
            // looked at ahead of the NUMBERS: the FAULT is the word's place
            if (draft.count >= EWE_LIMIT) {
                return false;
            }
            int kind = nextNumber();
            if (!isKind(kind)) {
                return false;
            }
            int a = nextNumber();
            if (a < 0 || a > A_LIMIT) {
                return false;
            }
            int cell = nextNumber();
            if (!draft.isOpen(cell)) {
                return false;
            }
            draft.addEwe(kind, a, cell);
            return true;
        }

        private boolean readWind() {
            int n = nextNumber();
            if (n < 0 || n > WIND_LIMIT) {
                return false;
            }
            draft.wind = n;
            return true;
        }

        /** The NUMBER that comes next; NONE, which may stand nowhere, if what comes is none or too long. */
        private int nextNumber() {
            nextToken();
            if (token != NUMBER || end - start > MOST_DIGITS) {
                return NONE;
            }
            int n = 0;
            for (int i = start; i < end; i++) {
                n = n * 10 + byteAt(i) - '0';
            }
            return n;
        }

        private boolean isWord(String word) {
            if (end - start != word.length()) {
                return false;
            }
            for (int i = 0; i < word.length(); i++) {
                if (byteAt(start + i) != word.charAt(i)) {
                    return false;
                }
            }
            return true;
        }

        /** Sets token, start and end; behind the last one start is THE TAPE's size. */
        private void nextToken() {
            start = end;
            while (start < size && byteAt(start) == ' ') {
                start++;
            }
            token = tokenOf(byteAt(start));
            end = token == END ? start : start + 1;
            while ((token == WORD || token == NUMBER) && end < size && tokenOf(byteAt(end)) == token) {
                end++;
            }
        }

        private static int tokenOf(int letter) {
            if (letter == NONE) {
                return END;
            }
            if (letter >= 'a' && letter <= 'z') {
                return WORD;
            }
            if (letter >= '0' && letter <= '9') {
                return NUMBER;
            }
            return letter == ';' ? SIGN : NO_TOKEN;
        }

        private int byteAt(int i) {
            return i >= 0 && i < size ? bytes[i] : NONE;
        }
    }
}
