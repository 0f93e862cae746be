import java.util.Arrays;

/** A maze of which one hedge is moved each night; the document says what each call answers. */
public final class HedgeMaze {

    public static final int NONE = -1;

    private static final int NO_SUCH = -2;
    private static final int REFUSED = -3;
    private static final int HAS_FAULT = -4;
    private static final int NOT_LAWFUL = -5;
    private static final int HAS_NOTHING = -6;
    private static final int UNFIT = -7;
    private static final int UNLIKE_WIDTHS = -8;

    private static final int TAPE_BYTES = 1600;
    private static final int FEED_BYTES = 20;
    private static final int IMAGES = 3;
    private static final int SLOTS = 4;
    private static final int ROW_NUMBERS = 60;
    private static final int LAST_WIDTH = 3;
    private static final int LAST_STEP = 7;

    private static final int LEAST_LENGTH = 2;
    private static final int MOST_LENGTH = 5;
    private static final int MOST_CELLS = 25;
    private static final int MOST_SIDES = 40;
    private static final int MOST_HEDGES = 12;
    private static final int MOST_WALLS = 12;
    private static final int MOST_GATES = 4;
    private static final int MOST_GUESTS = 5;
    private static final int MOST_GONE = 99;
    private static final int MOST_LAWFUL = MOST_HEDGES * MOST_SIDES;

    private static final int MOST_STEPS = 99;
    private static final int MOST_DAYS = 3;
    private static final int MOST_AHEAD = 2;
    private static final int MOST_NIGHTS_TO = 3;
    private static final int MOST_OPENINGS = 3;
    private static final int MOST_ROUNDS = 120;
    private static final int MOST_DRAWS = 40;
    private static final int LAST_SEED = 2000000000;

    private static final int WAYS = 4;
    private static final int EAST = 1;
    private static final int SOUTH = 2;

    /** A night is told as one number: so many times the side from which, and the other. */
    private static final int FROM = 100;

    private final byte[] tape = new byte[TAPE_BYTES];
    private int tapeSize = 0;
    private int faultNumber = 0;
    private int faultPlace = NONE;
    private final Reader reader = new Reader();
    private final Garden garden = new Garden();
    private final Garden[] images = new Garden[IMAGES];
    private final Row[] rows = new Row[SLOTS];
    private final Gardeners gardeners = new Gardeners();
    private final Host host = new Host();
    private final int[] stepsThere = new int[MOST_CELLS];

    public HedgeMaze() {
        for (int slot = 0; slot < SLOTS; slot++) {
            rows[slot] = new Row();
        }
    }

    // ---- the tape and the maze that is told on it ----

    public int feed(int a, int b, int c, int d, int e) {
        if (tapeSize > TAPE_BYTES - FEED_BYTES) {
            return NONE;
        }
        putBytes(a);
        putBytes(b);
        putBytes(c);
        putBytes(d);
        putBytes(e);
        return tapeSize;
    }

    private void putBytes(int four) {
        for (int shift = 24; shift >= 0; shift -= 8) {
            if (tapeSize < TAPE_BYTES) {
                tape[tapeSize] = (byte) (four >> shift);
                tapeSize++;
            }
        }
    }

    public int end(int n) {
        if (n < 0 || n > tapeSize) {
            return NONE;
        }
        tapeSize = n;
        return n;
    }

    public int maze() {
        reader.readTape(tape, tapeSize);
        faultNumber = reader.faultNumber;
        faultPlace = reader.faultPlace;
        if (faultNumber != 0) {
            return HAS_FAULT;
        }
        garden.becomeLike(reader.draft);
        tapeSize = 0;
        return garden.lines;
    }

    public int fault(int what) {
        if (what == 0) {
            return faultNumber;
        }
        return what == 1 ? faultPlace : NONE;
    }

    // ---- cells, sides and ways ----

    public int sides() {
        return hasMaze() ? garden.plan.sideCount : NO_SUCH;
    }

    public int side(int cell, int way) {
        if (!isCell(cell) || way < 0 || way >= WAYS) {
            return NO_SUCH;
        }
        return garden.plan.sideAt(cell, way);
    }

    public int what(int side, int what) {
        if (!isSide(side) || what < 0 || what > 2) {
            return NO_SUCH;
        }
        Plan plan = garden.plan;
        if (what == 0) {
            return plan.first[side];
        }
        if (what == 1) {
            return plan.other[side];
        }
        if (plan.has(garden.hedges, side)) {
            return 1;
        }
        return plan.has(garden.walls, side) ? 2 : 0;
    }

    public int far(int cell, int to) {
        if (!isCell(cell) || !isCell(to)) {
            return NO_SUCH;
        }
        return garden.plan.stepsBetween(1 << cell, 1 << to, garden.openSides());
    }

    public int way(int cell, int to, int i) {
        if (!isCell(cell) || !isCell(to)) {
            return NO_SUCH;
        }
        garden.plan.measure(to, garden.openSides(), stepsThere);
        if (i < 0 || i > stepsThere[cell]) {
            return NONE;
        }
        int at = cell;
        for (int step = 0; step < i; step++) {
            at = stepOn(at);
        }
        return at;
    }

    /** The next cell of the first way to where stepsThere has been measured. */
    private int stepOn(int cell) {
        return garden.plan.nextOnWay(cell, garden.openSides(), stepsThere);
    }

    public int gate(int cell) {
        return isCell(cell) ? garden.stepsToGate(cell, garden.hedges) : NO_SUCH;
    }

    public int within(int cell, int n) {
        if (!isCell(cell) || n < 0 || n > MOST_STEPS) {
            return NO_SUCH;
        }
        return Integer.bitCount(garden.plan.spread(1 << cell, garden.openSides(), n));
    }

    public int shape(int what) {
        if (!hasMaze()) {
            return NO_SUCH;
        }
        long open = garden.openSides();
        switch (what) {
            case 0:
                return garden.plan.countDeadEnds(open);
            case 1:
                return Long.bitCount(open) - (garden.plan.cellCount - 1);
            case 2:
                return garden.plan.mostSteps(open);
            case 3:
                return Long.bitCount(open);
            default:
                return NO_SUCH;
        }
    }

    public int bridge(int what) {
        if (!hasMaze() || what < NONE) {
            return NO_SUCH;
        }
        long open = garden.openSides();
        long bridges = garden.plan.bridges(open);
        return what == NONE ? Long.bitCount(bridges) : garden.plan.pick(bridges, what);
    }

    // ---- nights ----

    public int lawful(int from, int to) {
        if (!isSide(from) || !isSide(to)) {
            return NO_SUCH;
        }
        return garden.judge(garden.hedges, from, to);
    }

    public int many() {
        return hasMaze() ? gardeners.list(garden, garden.hedges, 0) : NO_SUCH;
    }

    public int nth(int i) {
        if (!hasMaze()) {
            return NO_SUCH;
        }
        int many = gardeners.list(garden, garden.hedges, 0);
        return i >= 0 && i < many ? gardeners.listed(0, i) : NONE;
    }

    public int night(int from, int to) {
        int verdict = lawful(from, to);
        if (verdict != 0) {
            return verdict;
        }
        if (garden.goneCount >= MOST_GONE) {
            return REFUSED;
        }
        int told = FROM * from + to;
        garden.hedges = garden.hedgesAfter(garden.hedges, told);
        garden.goneNights[garden.goneCount] = told;
        garden.goneCount++;
        return 0;
    }

    public int dawn() {
        if (!hasMaze()) {
            return NO_SUCH;
        }
        if (garden.goneCount <= 0) {
            return 0;
        }
        garden.goneCount--;
        garden.hedges = garden.hedgesAfter(garden.hedges, garden.goneNights[garden.goneCount]);
        return 1;
    }

    public int gone(int what) {
        if (!hasMaze() || what < NONE) {
            return NO_SUCH;
        }
        if (what == NONE) {
            return garden.goneCount;
        }
        return what < garden.goneCount ? garden.goneNights[what] : NONE;
    }

    public int may(int side, int n) {
        if (!isSide(side) || n < 1 || n > MOST_AHEAD) {
            return NO_SUCH;
        }
        if (garden.plan.has(garden.walls, side)) {
            return 4;
        }
        return gardeners.mayStand(garden, garden.hedges, side, n);
    }

    public int nights(int slot) {
        if (!isSlot(slot) || !hasMaze()) {
            return NO_SUCH;
        }
        Row row = rows[slot];
        if (!row.there) {
            return HAS_NOTHING;
        }
        if (row.size != Long.bitCount(garden.hedges)) {
            return UNFIT;
        }
        long goal = 0L;
        for (int i = 0; i < row.size; i++) {
            long bit = garden.plan.bitOf(row.numbers[i]);
            if (bit == 0L || (bit & (garden.walls | goal)) != 0L) {
                return NO_SUCH;
            }
            goal |= bit;
        }
        return gardeners.fewestNights(garden, goal);
    }

    // ---- who comes out ----

    public int out(int slot, int cell, int n) {
        if (!isSlot(slot) || !isCell(cell) || n < 1 || n > MOST_STEPS) {
            return NO_SUCH;
        }
        Row row = rows[slot];
        if (!row.there) {
            return HAS_NOTHING;
        }
        if (!areLawful(row)) {
            return NOT_LAWFUL;
        }
        long hedges = garden.hedges;
        int cells = 1 << cell;
        for (int day = 0; day <= row.size; day++) {
            cells = garden.plan.spread(cells, garden.openWith(hedges), n);
            if ((cells & garden.gateCells()) != 0) {
                return day;
            }
            if (day < row.size) {
                hedges = garden.hedgesAfter(hedges, row.numbers[day]);
            }
        }
        return NONE;
    }

    private boolean areLawful(Row row) {
        long hedges = garden.hedges;
        for (int i = 0; i < row.size; i++) {
            long told = row.numbers[i];
            if (told < 0L || !isSide(told / FROM) || !isSide(told % FROM)) {
                return false;
            }
            if (garden.judge(hedges, (int) (told / FROM), (int) (told % FROM)) != 0) {
                return false;
            }
            hedges = garden.hedgesAfter(hedges, told);
        }
        return true;
    }

    public int held(int cell, int n, int d) {
        if (!isCell(cell) || !areDays(n, d)) {
            return NO_SUCH;
        }
        return (gardeners.heldCells(garden, garden.hedges, n, d) >> cell) & 1;
    }

    public int hold(int n, int d) {
        if (!hasMaze() || !areDays(n, d)) {
            return NO_SUCH;
        }
        return Integer.bitCount(gardeners.heldCells(garden, garden.hedges, n, d));
    }

    private static boolean areDays(int steps, int days) {
        return steps >= 1 && steps <= MOST_STEPS && days >= 1 && days <= MOST_DAYS;
    }

    public int worst(int cell) {
        if (!isCell(cell)) {
            return NO_SUCH;
        }
        int many = gardeners.list(garden, garden.hedges, 0);
        int worst = NONE;
        int most = NONE;
        for (int i = 0; i < many; i++) {
            int told = gardeners.listed(0, i);
            int steps = garden.stepsToGate(cell, garden.hedgesAfter(garden.hedges, told));
            if (steps > most) {
                most = steps;
                worst = told;
            }
        }
        return worst;
    }

    // ---- guests ----

    public int guest(int i) {
        return isGuest(i) ? garden.guests[i] : NONE;
    }

    public int meet(int what) {
        if (!hasMaze() || what < 0 || what > 2) {
            return NO_SUCH;
        }
        if (garden.guestCount == 0) {
            return NONE;
        }
        host.measureAll(garden);
        int cell = host.meetingCell(garden);
        if (what == 0) {
            return cell;
        }
        return what == 1 ? host.mostStepsTo(garden, cell) : host.allStepsTo(garden, cell);
    }

    public int tea(int cell) {
        return isCell(cell) ? host.bestRound(garden, cell) : NO_SUCH;
    }

    public int served(int cell, int i) {
        if (!isCell(cell)) {
            return NO_SUCH;
        }
        host.bestRound(garden, cell);
        return isGuest(i) ? host.best[i] : NONE;
    }

    public int letter(int what) {
        if (!hasMaze() || what < 0 || what > 1) {
            return NO_SUCH;
        }
        if (garden.letterCell == NONE || garden.gateCount == 0) {
            return NONE;
        }
        garden.plan.measure(garden.gates[0], garden.openSides(), stepsThere);
        int finder = NONE;
        int soonest = NONE;
        for (int i = 0; i < garden.guestCount; i++) {
            int steps = stepsToLetter(garden.guests[i]);
            if (steps != NONE && (finder == NONE || steps < soonest)) {
                finder = i;
                soonest = steps;
            }
        }
        return what == 0 ? finder : soonest;
    }

    /** Steps to the letter on the first way to where stepsThere has been measured. */
    private int stepsToLetter(int cell) {
        int at = cell;
        for (int steps = 0; steps < MOST_CELLS; steps++) {
            if (at == garden.letterCell) {
                return steps;
            }
            at = stepOn(at);
        }
        return NONE;
    }

    public int goes(int guest, int cell) {
        if (!isGuest(guest) || !isCell(cell)) {
            return NO_SUCH;
        }
        int before = garden.guests[guest];
        garden.guests[guest] = cell;
        return before;
    }

    // ---- walks ----

    public int walk(int slot, int cell) {
        int refusal = refusalOfWalk(slot, cell);
        return refusal != 0 ? refusal : follow(rows[slot], cell, false);
    }

    public int ends(int slot, int cell) {
        int refusal = refusalOfWalk(slot, cell);
        return refusal != 0 ? refusal : follow(rows[slot], cell, true);
    }

    public int odd(int slot, int cell, int other, int from, int what) {
        if (what < 0 || what > 1) {
            return NO_SUCH;
        }
        int refusal = refusalOfWalk(slot, cell);
        if (refusal == 0) {
            refusal = refusalOfWalk(other, from);
        }
        if (refusal != 0) {
            return refusal;
        }
        Row one = rows[slot];
        Row two = rows[other];
        long unlike = toldSides(one, cell, true) & toldSides(two, from, false);
        unlike |= toldSides(one, cell, false) & toldSides(two, from, true);
        return what == 0 ? Long.bitCount(unlike) : garden.plan.pick(unlike, 0);
    }

    private int refusalOfWalk(int slot, int cell) {
        if (!isSlot(slot) || !isCell(cell)) {
            return NO_SUCH;
        }
        Row row = rows[slot];
        if (!row.there) {
            return HAS_NOTHING;
        }
        for (int i = 0; i < row.size; i++) {
            if (row.numbers[i] < 0L || row.numbers[i] > LAST_STEP) {
                return NO_SUCH;
            }
        }
        return 0;
    }

    /** How many steps of a walk are so ahead of the first that is not, or the cell behind these. */
    private int follow(Row row, int cell, boolean wantsCell) {
        Plan plan = garden.plan;
        long open = garden.openSides();
        int at = cell;
        int done = 0;
        for (int i = 0; i < row.size && done == i; i++) {
            int step = (int) row.numbers[i];
            int side = plan.sideAt(at, step % WAYS);
            boolean isOpen = plan.has(open, side);
            boolean goesThere = step < WAYS;
            if (isOpen == goesThere) {
                done++;
                at = isOpen ? plan.beyond(side, at) : at;
            }
        }
        return wantsCell ? at : done;
    }

    /** The sides that a walk tells to be open, or those that it tells not to be. */
    private long toldSides(Row row, int cell, boolean wantsOpen) {
        Plan plan = garden.plan;
        long told = 0L;
        int at = cell;
        for (int i = 0; i < row.size; i++) {
            int step = (int) row.numbers[i];
            int side = plan.sideAt(at, step % WAYS);
            boolean goesThere = step < WAYS;
            if (goesThere == wantsOpen) {
                told |= plan.bitOf(side);
            }
            at = goesThere ? plan.beyond(side, at) : at;
        }
        return told;
    }

    // ---- openings and draws ----

    public int openings(int what) {
        if (!hasMaze() || what < NONE) {
            return NO_SUCH;
        }
        int fewest = gardeners.fewestOpenings(garden);
        if (what == NONE) {
            return fewest;
        }
        return what < fewest ? gardeners.opened[what] : NONE;
    }

    public int drawn(int seed, int n, int cell) {
        if (!isCell(cell) || !areDraws(seed, n)) {
            return NO_SUCH;
        }
        return garden.stepsToGate(cell, gardeners.drawNights(garden, seed, n));
    }

    public int lastly(int seed, int n) {
        if (!hasMaze() || !areDraws(seed, n)) {
            return NO_SUCH;
        }
        gardeners.drawNights(garden, seed, n);
        return gardeners.lastDrawn;
    }

    private static boolean areDraws(int seed, int nights) {
        return seed >= 0 && seed <= LAST_SEED && nights >= 0 && nights <= MOST_DRAWS;
    }

    // ---- counts and images ----

    public int count(int what) {
        switch (what) {
            case 0:
                return garden.plan.wide;
            case 1:
                return garden.plan.deep;
            case 2:
                return Long.bitCount(garden.hedges);
            case 3:
                return Long.bitCount(garden.walls);
            case 4:
                return garden.gateCount;
            case 5:
                return garden.guestCount;
            case 6:
                return garden.lines;
            case 7:
                return tapeSize;
            case 8:
                return garden.isNear ? 1 : 0;
            case 9:
                return garden.letterCell;
            case 10:
                return countRows();
            default:
                return NONE;
        }
    }

    private int countRows() {
        int found = 0;
        for (int slot = 0; slot < SLOTS; slot++) {
            if (rows[slot].there) {
                found++;
            }
        }
        return found;
    }

    public int keep(int k) {
        if (k < 0 || k >= IMAGES) {
            return NO_SUCH;
        }
        Garden image = images[k];
        if (image == null) {
            image = new Garden();
            images[k] = image;
        }
        image.becomeLike(garden);
        return 0;
    }

    public int back(int k) {
        if (k < 0 || k >= IMAGES) {
            return NO_SUCH;
        }
        Garden image = images[k];
        if (image == null) {
            return HAS_NOTHING;
        }
        garden.becomeLike(image);
        return 0;
    }

    // ---- slots ----

    public int row(int slot, int width, int n) {
        if (!isSlot(slot) || width < 0 || width > LAST_WIDTH || n > ROW_NUMBERS) {
            return NO_SUCH;
        }
        if (n < 0) {
            return REFUSED;
        }
        rows[slot].begin(width, n);
        return 0;
    }

    public int write(int slot, int i, long v) {
        if (!isSlot(slot)) {
            return NO_SUCH;
        }
        Row row = rows[slot];
        if (!row.there) {
            return HAS_NOTHING;
        }
        if (i < 0 || i >= row.size) {
            return UNFIT;
        }
        row.numbers[i] = row.cut(v);
        return 0;
    }

    public int paste(int slot, int i, int to, int k, int n) {
        if (!isSlot(slot) || !isSlot(to)) {
            return NO_SUCH;
        }
        Row source = rows[slot];
        Row target = rows[to];
        if (!source.there || !target.there) {
            return HAS_NOTHING;
        }
        if (source.width != target.width) {
            return UNLIKE_WIDTHS;
        }
        if (!source.holds(i, n) || !target.holds(k, n)) {
            return UNFIT;
        }
        System.arraycopy(source.numbers, i, target.numbers, k, n);
        return 0;
    }

    // ---- what there is ----

    private boolean hasMaze() {
        return garden.lines > 0;
    }

    private boolean isCell(int cell) {
        return cell >= 0 && cell < garden.plan.cellCount;
    }

    private boolean isSide(long side) {
        return side >= 0L && side < garden.plan.sideCount;
    }

    private boolean isGuest(int i) {
        return i >= 0 && i < garden.guestCount;
    }

    private static boolean isSlot(int slot) {
        return slot >= 0 && slot < SLOTS;
    }

    /** A slot's row; its numbers are kept as longs, cut as a number of its width would be. */
    private static final class Row {
        boolean there = false;
        int width = 0;
        int size = 0;
        final long[] numbers = new long[ROW_NUMBERS];

        void begin(int newWidth, int newSize) {
            there = true;
            width = newWidth;
            size = newSize;
            Arrays.fill(numbers, 0L);
        }

        long cut(long number) {
            switch (width) {
                case 0:
                    return (byte) number;
                case 1:
                    return (short) number;
                case 2:
                    return (int) number;
                default:
                    return number;
            }
        }

        /** Asked by a difference, since a sum of the two could wrap around. */
        boolean holds(int start, int many) {
            return start >= 0 && many >= 0 && many <= size && start <= size - many;
        }
    }

    /**
     * Where cells and sides lie. A set of cells is the bits of an int, a cell's bit at its number.
     * A set of sides is the bits of a long: at a cell's number its side to the east, 32 higher its
     * side to the south, so that the cells next to a whole set are found by shifts.
     */
    private static final class Plan {
        int wide = 0;
        int deep = 0;
        int cellCount = 0;
        int sideCount = 0;
        long allSides = 0L;
        final int[] first = new int[MOST_SIDES];
        final int[] other = new int[MOST_SIDES];
        final long[] bits = new long[MOST_SIDES];
        final int[] around = new int[MOST_CELLS * WAYS];

        void lay(int newWide, int newDeep) {
            wide = Math.min(newWide, MOST_LENGTH);
            deep = Math.min(newDeep, MOST_LENGTH);
            cellCount = wide * deep;
            sideCount = 0;
            allSides = 0L;
            Arrays.fill(around, NONE);
            for (int y = 0; y < deep; y++) {
                for (int x = 0; x < wide; x++) {
                    int cell = wide * y + x;
                    if (x < wide - 1) {
                        join(cell, cell + 1, EAST, 1L << cell);
                    }
                    if (y < deep - 1) {
                        join(cell, cell + wide, SOUTH, 1L << (cell + 32));
                    }
                }
            }
        }

        private void join(int cell, int next, int way, long bit) {
            first[sideCount] = cell;
            other[sideCount] = next;
            bits[sideCount] = bit;
            allSides |= bit;
            around[cell * WAYS + way] = sideCount;
            around[next * WAYS + (way + 2) % WAYS] = sideCount;
            sideCount++;
        }

        int allCells() {
            return (1 << cellCount) - 1;
        }

        /** The bit of a side; no bit for a number that is none. */
        long bitOf(long side) {
            return side >= 0L && side < sideCount ? bits[(int) side] : 0L;
        }

        boolean has(long set, int side) {
            return (set & bitOf(side)) != 0L;
        }

        int sideAt(int cell, int way) {
            int place = cell * WAYS + way;
            return place >= 0 && place < around.length ? around[place] : NONE;
        }

        /** The cell on the other hand of a side; the cell itself where there is no side. */
        int beyond(int side, int cell) {
            if (side < 0 || side >= sideCount) {
                return cell;
            }
            return first[side] == cell ? other[side] : first[side];
        }

        /** The sides that a cell of a side has, too. */
        long sidesNear(int side) {
            if (side < 0 || side >= sideCount) {
                return 0L;
            }
            long near = 0L;
            for (int way = 0; way < WAYS; way++) {
                near |= bitOf(sideAt(first[side], way)) | bitOf(sideAt(other[side], way));
            }
            return near & ~bits[side];
        }

        /** The i-th of a set of sides, by number. */
        int pick(long set, int i) {
            int passed = 0;
            for (int side = 0; side < sideCount; side++) {
                if (has(set, side)) {
                    if (passed == i) {
                        return side;
                    }
                    passed++;
                }
            }
            return NONE;
        }

        /** A set of cells and all that are a step away from one of it. */
        int grow(int cells, long open) {
            int east = (int) open;
            int south = (int) (open >>> 32);
            return cells
                | (cells & east) << 1 | (cells >> 1) & east
                | (cells & south) << wide | (cells >> wide) & south;
        }

        int spread(int cells, long open, int steps) {
            int before = 0;
            int reached = cells;
            int enough = Math.min(steps, MOST_CELLS);
            for (int step = 0; step < enough && reached != before; step++) {
                before = reached;
                reached = grow(reached, open);
            }
            return reached;
        }

        int stepsBetween(int cells, int goals, long open) {
            int reached = cells;
            for (int steps = 0; steps < MOST_CELLS; steps++) {
                if ((reached & goals) != 0) {
                    return steps;
                }
                int next = grow(reached, open);
                if (next == reached) {
                    return NONE;
                }
                reached = next;
            }
            return NONE;
        }

        boolean hangsTogether(long open) {
            return spread(1, open, MOST_CELLS) == allCells();
        }

        /** The cells that hang together with a side's first cell if the side is shut. */
        int partBeside(int side, long open) {
            if (side < 0 || side >= sideCount) {
                return allCells();
            }
            return spread(1 << first[side], open & ~bits[side], MOST_CELLS);
        }

        /** Whether opening a side joins a part with all other cells; all cells need no joining. */
        boolean joins(int side, int part) {
            if (part == allCells() || side < 0 || side >= sideCount) {
                return part == allCells();
            }
            return (part >> first[side] & 1) != (part >> other[side] & 1);
        }

        long bridges(long open) {
            long found = 0L;
            for (int side = 0; side < sideCount; side++) {
                if (has(open, side) && partBeside(side, open) != allCells()) {
                    found |= bits[side];
                }
            }
            return found;
        }

        int countDeadEnds(long open) {
            int found = 0;
            for (int cell = 0; cell < cellCount; cell++) {
                int openings = 0;
                for (int way = 0; way < WAYS; way++) {
                    if (has(open, sideAt(cell, way))) {
                        openings++;
                    }
                }
                if (openings == 1) {
                    found++;
                }
            }
            return found;
        }

        int mostSteps(long open) {
            int most = 0;
            for (int cell = 0; cell < cellCount; cell++) {
                for (int to = cell + 1; to < cellCount; to++) {
                    most = Math.max(most, stepsBetween(1 << cell, 1 << to, open));
                }
            }
            return most;
        }

        /** Puts the steps of each cell to one into a row; NONE where there is no way. */
        void measure(int to, long open, int[] steps) {
            Arrays.fill(steps, NONE);
            int reached = 1 << to;
            for (int step = 0; step < MOST_CELLS; step++) {
                for (int cell = 0; cell < cellCount && cell < steps.length; cell++) {
                    if ((reached >> cell & 1) != 0 && steps[cell] == NONE) {
                        steps[cell] = step;
                    }
                }
                reached = grow(reached, open);
            }
        }

        /** The next cell of the first way to where steps were measured; at its end, the cell. */
        int nextOnWay(int cell, long open, int[] steps) {
            for (int way = 0; way < WAYS; way++) {
                int side = sideAt(cell, way);
                int next = beyond(side, cell);
                if (has(open, side) && steps[next] == steps[cell] - 1) {
                    return next;
                }
            }
            return cell;
        }
    }

    /** A maze with its guests and the nights that are gone: what an image keeps. */
    private static final class Garden {
        final Plan plan = new Plan();
        int lines = 0;
        long hedges = 0L;
        long walls = 0L;
        boolean isNear = false;
        int letterCell = NONE;
        int gateCount = 0;
        final int[] gates = new int[MOST_GATES];
        int guestCount = 0;
        final int[] guests = new int[MOST_GUESTS];
        int goneCount = 0;
        final int[] goneNights = new int[MOST_GONE];

        void clear() {
            plan.lay(0, 0);
            lines = 0;
            hedges = 0L;
            walls = 0L;
            isNear = false;
            letterCell = NONE;
            gateCount = 0;
            guestCount = 0;
            goneCount = 0;
        }

        void becomeLike(Garden like) {
            plan.lay(like.plan.wide, like.plan.deep);
            lines = like.lines;
            hedges = like.hedges;
            walls = like.walls;
            isNear = like.isNear;
            letterCell = like.letterCell;
            gateCount = like.gateCount;
            guestCount = like.guestCount;
            goneCount = like.goneCount;
            System.arraycopy(like.gates, 0, gates, 0, MOST_GATES);
            System.arraycopy(like.guests, 0, guests, 0, MOST_GUESTS);
            System.arraycopy(like.goneNights, 0, goneNights, 0, MOST_GONE);
        }

        long openSides() {
            return openWith(hedges);
        }

        /** The open sides if the hedges stood there. */
        long openWith(long someHedges) {
            return plan.allSides & ~walls & ~someHedges;
        }

        int gateCells() {
            int cells = 0;
            for (int i = 0; i < gateCount; i++) {
                cells |= 1 << gates[i];
            }
            return cells;
        }

        int stepsToGate(int cell, long someHedges) {
            return plan.stepsBetween(1 << cell, gateCells(), openWith(someHedges));
        }

        /** The hedges behind a night; behind the same night once more, as they were. */
        long hedgesAfter(long before, long told) {
            return before ^ plan.bitOf(told / FROM) ^ plan.bitOf(told % FROM);
        }

        /** The sides to which a hedge may go by the law, whether or not cells are cut off then. */
        long sidesByLaw(int from) {
            return isNear ? plan.sidesNear(from) : plan.allSides;
        }

        /** Whether a night is lawful, if the hedges stood there: the numbers of lawful(). */
        int judge(long someHedges, int from, int to) {
            if (!plan.has(someHedges, from)) {
                return 1;
            }
            long open = openWith(someHedges);
            if (!plan.has(open, to)) {
                return 2;
            }
            if (!plan.has(sidesByLaw(from), to)) {
                return 3;
            }
            return plan.joins(from, plan.partBeside(to, open)) ? 0 : 4;
        }
    }

    /** Reads a maze from a tape into a draft; the first fault ends the reading. */
    private static final class Reader {
        private static final int END = 0;
        private static final int WORD = 1;
        private static final int NUMBER = 2;
        private static final int SIGN = 3;
        private static final int BLANK = 4;
        private static final int STRANGE = 5;
        private static final int HUGE = 1000;

        final Garden draft = new Garden();
        int faultNumber = 0;
        int faultPlace = NONE;
        private byte[] tape = null;
        private int tapeSize = 0;
        private int kind = END;
        private int tokenStart = 0;
        private int tokenEnd = 0;
        private int numberPlace = 0;
        private boolean hasLaw = false;

        void readTape(byte[] newTape, int newSize) {
            tape = newTape;
            tapeSize = newTape == null ? 0 : Math.min(newSize, newTape.length);
            faultNumber = 0;
            faultPlace = NONE;
            tokenEnd = 0;
            hasLaw = false;
            draft.clear();
            advance();
            for (int line = 0; line < TAPE_BYTES && faultNumber == 0 && kind != END; line++) {
                readLine();
            }
            if (faultNumber == 0 && draft.lines > 0
                    && !draft.plan.hangsTogether(draft.openSides())) {
                fail(2, tapeSize);
            }
        }

        private void fail(int newFault, int place) {
            if (faultNumber == 0) {
                faultNumber = newFault;
                faultPlace = place;
            }
        }

        private int byteAt(int place) {
            return tape != null && place >= 0 && place < tapeSize ? tape[place] : NONE;
        }

        private static int kindOf(int sign) {
            if (sign >= 'a' && sign <= 'z') {
                return WORD;
            }
            if (sign >= '0' && sign <= '9') {
                return NUMBER;
            }
            if (sign == 32 || sign == 10) {
                return BLANK;
            }
            return sign == ';' ? SIGN : STRANGE;
        }

        /** Goes on to the next token; at the end of the tape it stands at the end's place. */
        private void advance() {
            int at = tokenEnd;
            while (at < tapeSize && kindOf(byteAt(at)) == BLANK) {
                at++;
            }
            tokenStart = at;
            kind = at < tapeSize ? kindOf(byteAt(at)) : END;
            boolean isLong = kind == WORD || kind == NUMBER;
            int most = isLong ? tapeSize : Math.min(at + 1, tapeSize);
            while (at < most && kindOf(byteAt(at)) == kind) {
                at++;
            }
            tokenEnd = at;
        }

        /** Numbers far out of all bounds are cut, so that none wraps around into them. */
        private int numberHere() {
            int number = 0;
            for (int at = tokenStart; at < tokenEnd; at++) {
                number = Math.min(10 * number + byteAt(at) - '0', HUGE);
            }
            return number;
        }

        private boolean isWord(String word) {
            if (kind != WORD || tokenEnd - tokenStart != word.length()) {
                return false;
            }
            for (int i = 0; i < word.length(); i++) {
                if (byteAt(tokenStart + i) != word.charAt(i)) {
                    return false;
                }
            }
            return true;
        }

        private void takeWord(String word) {
            if (faultNumber == 0 && !isWord(word)) {
                fail(1, tokenStart);
            }
            if (faultNumber == 0) {
                advance();
            }
        }

        private int takeNumber(int least, int most) {
            if (faultNumber == 0 && kind != NUMBER) {
                fail(1, tokenStart);
            }
            if (faultNumber != 0) {
                return least;
            }
            int taken = numberHere();
            numberPlace = tokenStart;
            if (taken < least || taken > most) {
                fail(2, tokenStart);
                return least;
            }
            advance();
            return taken;
        }

        private void readLine() {
            if (draft.lines == 0) {
                readLengths();
            } else if (isWord("wall")) {
                readTub(Long.bitCount(draft.walls) < MOST_WALLS, false);
            } else if (isWord("hedge")) {
                readTub(Long.bitCount(draft.hedges) < MOST_HEDGES, true);
            } else if (isWord("gate")) {
                readGate();
            } else if (isWord("guest")) {
                readGuest();
            } else if (isWord("letter")) {
                readLetter();
            } else if (isWord("law")) {
                readLaw();
            } else {
                fail(1, tokenStart);
            }
            if (faultNumber == 0 && kind != SIGN) {
                fail(1, tokenStart);
            }
            if (faultNumber == 0) {
                draft.lines++;
                advance();
            }
        }

        private void readLengths() {
            takeWord("maze");
            takeWord("wide");
            int wide = takeNumber(LEAST_LENGTH, MOST_LENGTH);
            takeWord("long");
            int deep = takeNumber(LEAST_LENGTH, MOST_LENGTH);
            draft.plan.lay(wide, deep);
        }

        /** A word that may stand here, unless there are as many of it as there may be. */
        private void takeHead(boolean isFree, int faultElse) {
            if (!isFree) {
                fail(faultElse, tokenStart);
            }
            if (faultNumber == 0) {
                advance();
            }
        }

        private int takeCell() {
            takeWord("at");
            int x = takeNumber(0, draft.plan.wide - 1);
            int y = takeNumber(0, draft.plan.deep - 1);
            return draft.plan.wide * y + x;
        }

        private void readTub(boolean isFree, boolean isHedge) {
            takeHead(isFree, 3);
            int cell = takeCell();
            if (faultNumber == 0 && !isWord("east") && !isWord("south")) {
                fail(1, tokenStart);
            }
            if (faultNumber != 0) {
                return;
            }
            int side = draft.plan.sideAt(cell, isWord("east") ? EAST : SOUTH);
            if (!draft.plan.has(draft.openSides(), side)) {
                fail(2, tokenStart);
                return;
            }
            if (isHedge) {
                draft.hedges |= draft.plan.bitOf(side);
            } else {
                draft.walls |= draft.plan.bitOf(side);
            }
            advance();
        }

        private void readGate() {
            takeHead(draft.gateCount < MOST_GATES, 3);
            int cell = takeCell();
            if (faultNumber == 0 && (draft.gateCells() >> cell & 1) != 0) {
                fail(2, numberPlace);
            }
            if (faultNumber == 0 && draft.gateCount < MOST_GATES) {
                draft.gates[draft.gateCount] = cell;
                draft.gateCount++;
            }
        }

        private void readGuest() {
            takeHead(draft.guestCount < MOST_GUESTS, 3);
            int cell = takeCell();
            if (faultNumber == 0 && draft.guestCount < MOST_GUESTS) {
                draft.guests[draft.guestCount] = cell;
                draft.guestCount++;
            }
        }

        private void readLetter() {
            takeHead(draft.letterCell == NONE, 2);
            int cell = takeCell();
            if (faultNumber == 0) {
                draft.letterCell = cell;
            }
        }

        private void readLaw() {
            takeHead(!hasLaw, 2);
            if (faultNumber == 0 && !isWord("far") && !isWord("near")) {
                fail(1, tokenStart);
            }
            if (faultNumber == 0) {
                hasLaw = true;
                draft.isNear = isWord("near");
                advance();
            }
        }
    }

    /** Looks ahead over lawful nights, always in thought: the garden stays as it is. */
    private static final class Gardeners {
        private static final int DEPTHS = 3;
        private static final long FACTOR = 1103515245L;
        private static final long ADDEND = 12345L;
        private static final long MODULUS = 2147483648L;
        private static final long CUT = 65536L;

        final int[] opened = new int[MOST_OPENINGS];
        int lastDrawn = NONE;
        /** A row for each depth: one list stands while another is made behind its nights. */
        private final int[][] lists = new int[DEPTHS][MOST_LAWFUL];
        /** By a side to which a hedge may go: the part beside it then, whatever hedge goes. */
        private final int[] parts = new int[MOST_SIDES];

        /** Lists the lawful nights as nth() orders them, and answers how many there are. */
        int list(Garden garden, long hedges, int depth) {
            if (depth < 0 || depth >= DEPTHS) {
                return 0;
            }
            Plan plan = garden.plan;
            long open = garden.openWith(hedges);
            for (int to = 0; to < plan.sideCount; to++) {
                parts[to] = plan.has(open, to) ? plan.partBeside(to, open) : 0;
            }
            int found = 0;
            for (int from = 0; from < plan.sideCount; from++) {
                long goals = plan.has(hedges, from) ? open & garden.sidesByLaw(from) : 0L;
                for (int to = 0; to < plan.sideCount && goals != 0L; to++) {
                    if (plan.has(goals, to) && plan.joins(from, parts[to]) && found < MOST_LAWFUL) {
                        lists[depth][found] = FROM * from + to;
                        found++;
                    }
                }
            }
            return found;
        }

        int listed(int depth, int i) {
            boolean isThere = depth >= 0 && depth < DEPTHS && i >= 0 && i < MOST_LAWFUL;
            return isThere ? lists[depth][i] : NONE;
        }

        /** 1 if a side may be open behind so many nights, 2 if a hedge may be on it, together. */
        int mayStand(Garden garden, long hedges, int side, int nights) {
            if (nights <= 0) {
                return garden.plan.has(hedges, side) ? 2 : 1;
            }
            int many = list(garden, hedges, nights);
            int found = 0;
            for (int i = 0; i < many && found != 3; i++) {
                long then = garden.hedgesAfter(hedges, listed(nights, i));
                found |= mayStand(garden, then, side, nights - 1);
            }
            return found;
        }

        int fewestNights(Garden garden, long goal) {
            if (!garden.plan.hangsTogether(garden.openWith(goal))) {
                return NONE;
            }
            for (int nights = 0; nights <= MOST_NIGHTS_TO; nights++) {
                if (comesTo(garden, garden.hedges, goal, nights)) {
                    return nights;
                }
            }
            return NONE;
        }

        private boolean comesTo(Garden garden, long hedges, long goal, int left) {
            int missing = Long.bitCount(goal & ~hedges);
            if (missing == 0 || missing > left) {
                return missing == 0;
            }
            Plan plan = garden.plan;
            for (int from = 0; from < plan.sideCount; from++) {
                boolean isHedge = plan.has(hedges, from);
                long asked = isHedge ? worthwhile(plan, goal, from, left - missing) : 0L;
                for (int to = 0; to < plan.sideCount && asked != 0L; to++) {
                    if (plan.has(asked, to) && garden.judge(hedges, from, to) == 0) {
                        long then = hedges ^ plan.bits[from] ^ plan.bits[to];
                        if (comesTo(garden, then, goal, left - 1)) {
                            return true;
                        }
                    }
                }
            }
            return false;
        }

        /** Where a hedge may go if at most so many nights may be without a gain for the goal. */
        private static long worthwhile(Plan plan, long goal, int from, int spare) {
            boolean isPlaced = plan.has(goal, from);
            if (spare >= 2 || spare == 1 && !isPlaced) {
                return plan.allSides;
            }
            return spare == 0 && isPlaced ? 0L : goal;
        }

        /** The cells from which one who goes so many steps a day is held for so many days. */
        int heldCells(Garden garden, long hedges, int steps, int days) {
            Plan plan = garden.plan;
            int lost = garden.gateCells();
            if (days > 1) {
                // who is held for more days is held for fewer: the dear question may be spared
                if (heldCells(garden, hedges, steps, days - 1) == 0) {
                    return 0;
                }
                lost |= ~heldBehindNight(garden, hedges, steps, days - 1);
            }
            int all = plan.allCells();
            return all & ~plan.spread(all & lost, garden.openWith(hedges), steps);
        }

        /** The cells for each of which there is a night behind which one there is held. */
        private int heldBehindNight(Garden garden, long hedges, int steps, int days) {
            int many = list(garden, hedges, days);
            if (many == 0) {
                return heldCells(garden, hedges, steps, days);
            }
            int hoped = garden.plan.allCells() & ~garden.gateCells();
            int found = 0;
            for (int i = 0; i < many && found != hoped; i++) {
                long then = garden.hedgesAfter(hedges, listed(days, i));
                int cells = heldCells(garden, then, steps, 1);
                if (days > 1 && (cells & ~found) != 0) {
                    cells = heldCells(garden, then, steps, days);
                }
                found |= cells;
            }
            return found;
        }

        /** How few hedges leave no bridge if they go; opened has the first such row then. */
        int fewestOpenings(Garden garden) {
            for (int size = 0; size <= MOST_OPENINGS; size++) {
                if (opensAll(garden, garden.openSides(), 0, 0, size)) {
                    return size;
                }
            }
            return NONE;
        }

        private boolean opensAll(Garden garden, long open, int start, int depth, int size) {
            Plan plan = garden.plan;
            if (depth >= size || depth >= MOST_OPENINGS) {
                return plan.bridges(open) == 0L;
            }
            for (int side = start; side < plan.sideCount; side++) {
                if (plan.has(garden.hedges, side)) {
                    opened[depth] = side;
                    if (opensAll(garden, open | plan.bits[side], side + 1, depth + 1, size)) {
                        return true;
                    }
                }
            }
            return false;
        }

        /** The hedges behind nights that are drawn; lastDrawn is the last of these then. */
        long drawNights(Garden garden, int seed, int nights) {
            long hedges = garden.hedges;
            long x = seed;
            lastDrawn = NONE;
            for (int night = 0; night < nights; night++) {
                int many = list(garden, hedges, 0);
                if (many > 0) {
                    x = (FACTOR * x + ADDEND) % MODULUS;
                    lastDrawn = listed(0, (int) (x / CUT % many));
                    hedges = garden.hedgesAfter(hedges, lastDrawn);
                }
            }
            return hedges;
        }
    }

    /** Brings guests together and finds the round of tea. */
    private static final class Host {
        final int[] best = new int[MOST_GUESTS];
        private final int[] order = new int[MOST_GUESTS];
        private final int[][] stepsFrom = new int[MOST_GUESTS][MOST_CELLS];

        void measureAll(Garden garden) {
            for (int guest = 0; guest < garden.guestCount; guest++) {
                garden.plan.measure(garden.guests[guest], garden.openSides(), stepsFrom[guest]);
            }
        }

        int mostStepsTo(Garden garden, int cell) {
            int most = 0;
            for (int guest = 0; guest < garden.guestCount; guest++) {
                most = Math.max(most, stepsFrom[guest][cell]);
            }
            return most;
        }

        int allStepsTo(Garden garden, int cell) {
            int all = 0;
            for (int guest = 0; guest < garden.guestCount; guest++) {
                all += stepsFrom[guest][cell];
            }
            return all;
        }

        int meetingCell(Garden garden) {
            int found = 0;
            for (int cell = 1; cell < garden.plan.cellCount; cell++) {
                if (mostStepsTo(garden, cell) < mostStepsTo(garden, found)) {
                    found = cell;
                }
            }
            return found;
        }

        /** The steps of the best round from a cell; best has the guests in its order then. */
        int bestRound(Garden garden, int cell) {
            int guests = garden.guestCount;
            measureAll(garden);
            for (int i = 0; i < guests; i++) {
                order[i] = i;
            }
            int fewest = NONE;
            boolean goesOn = true;
            for (int round = 0; round < MOST_ROUNDS && goesOn; round++) {
                int steps = stepsOfRound(garden, cell);
                if (fewest == NONE || steps < fewest) {
                    fewest = steps;
                    System.arraycopy(order, 0, best, 0, guests);
                }
                goesOn = nextOrder(guests);
            }
            return fewest;
        }

        private int stepsOfRound(Garden garden, int cell) {
            int steps = 0;
            int at = cell;
            for (int i = 0; i < garden.guestCount; i++) {
                int guest = order[i];
                steps += stepsFrom[guest][at];
                at = garden.guests[guest];
            }
            return garden.guestCount > 0
                ? steps + stepsFrom[order[garden.guestCount - 1]][cell]
                : steps;
        }

        /** Puts the next greater order in place of this one; false if this is the greatest. */
        private boolean nextOrder(int many) {
            int place = many - 2;
            while (place >= 0 && order[place] > order[place + 1]) {
                place--;
            }
            if (place < 0) {
                return false;
            }
            int greater = many - 1;
            while (greater > place && order[greater] < order[place]) {
                greater--;
            }
            exchange(place, greater);
            int left = place + 1;
            int right = many - 1;
            while (left < right) {
                exchange(left, right);
                left++;
                right--;
            }
            return true;
        }

        private void exchange(int one, int two) {
            int kept = order[one];
            order[one] = order[two];
            order[two] = kept;
        }
    }
}
