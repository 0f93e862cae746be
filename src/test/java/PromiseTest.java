/** The document's promises, one method each: ordinary calls, the edges it names, wrong ones. */
public final class PromiseTest {
    private static final int NONE = HedgeMaze.NONE;

    /**
     * A ring of six cells, shut by a hedge on side 0 (a wall is in its middle, on side 3):
     * <pre>
     *   0 |0 1 -2 2        sides 1: 0-3, 4: 2-5
     *   3 -5 4 -6 5
     * </pre>
     */
    private static final String RING = "maze wide 3 long 2;hedge at 0 0 east;wall at 1 0 south;"
        + "gate at 2 0;guest at 0 0;guest at 2 1;letter at 1 1;";
    /** A ring of the cells 0, 1, 4, 3, and 2 and 5 that hang on 1 and 4 alone. */
    private static final String HANDLES = "maze wide 3 long 2;hedge at 0 0 east;wall at 2 0 south;";
    private static final String SQUARE = "maze wide 2 long 2;";
    private static final String FIELD = "maze wide 3 long 3;";
    private static final String GREAT = "maze wide 5 long 5;";

    private final Checker check = new Checker();

    public static void main(String[] args) {
        PromiseTest test = new PromiseTest();
        test.tapeAndTexts();
        test.cellsAndSides();
        test.nightsAndDays();
        test.guestsAndWalks();
        test.theRest();
        test.check.finish("PromiseTest");
    }

    private void due(String call, long got, long want) {
        check.due(call, got, want);
    }

    private void promise(int number) {
        check.about("promise " + number);
    }

    private void tapeAndTexts() {
        newObject();
        feed();
        end();
        maze();
        faultsOfTokens();
        faultsOfBounds();
        faultsOfNumbers();
        faultAsked();
    }

    private void cellsAndSides() {
        sides();
        side();
        what();
        far();
        way();
        gate();
        within();
        shape();
        bridge();
    }

    private void nightsAndDays() {
        lawful();
        manyAndNth();
        night();
        dawn();
        gone();
        may();
        nights();
        out();
        heldAndHold();
        worst();
    }

    private void guestsAndWalks() {
        guest();
        meet();
        teaAndServed();
        letter();
        goes();
        walkAndEnds();
        odd();
    }

    private void theRest() {
        openings();
        drawnAndLastly();
        count();
        keepAndBack();
        row();
        write();
        paste();
        fullRows();
        fullTape();
    }

    // ---- 1 .. 5 ----

    private void newObject() {
        promise(1);
        HedgeMaze x = new HedgeMaze();
        due("NONE", HedgeMaze.NONE, -1);
        due("sides()", x.sides(), -2);
        due("count(0)", x.count(0), 0);
        due("count(1)", x.count(1), 0);
        due("count(6)", x.count(6), 0);
        due("count(7)", x.count(7), 0);
        due("count(9)", x.count(9), NONE);
        due("count(10)", x.count(10), 0);
        due("guest(0)", x.guest(0), NONE);
        for (int k = 0; k < 3; k++) {
            due("back", x.back(k), -6);
        }
    }

    private void feed() {
        promise(2);
        HedgeMaze x = new HedgeMaze();
        // "maze wide 2 long 2;" and a blank, the highest byte of each number first
        due("feed", x.feed(0x6d617a65, 0x20776964, 0x65203220, 0x6c6f6e67, 0x20323b20), 20);
        due("maze()", x.maze(), 1);
        due("count(7)", x.count(7), 0);
        for (int i = 1; i <= 80; i++) {
            due("feed", x.feed(-1, 0, 1, Integer.MAX_VALUE, Integer.MIN_VALUE), 20 * i);
        }
        due("feed", x.feed(0, 0, 0, 0, 0), NONE);
        due("count(7)", x.count(7), 1600);
        x.end(1581);
        due("feed", x.feed(0, 0, 0, 0, 0), NONE);
        due("count(7)", x.count(7), 1581);
        x.end(1580);
        due("feed", x.feed(0, 0, 0, 0, 0), 1600);
    }

    private void end() {
        promise(3);
        HedgeMaze x = new HedgeMaze();
        due("end(1)", x.end(1), NONE);
        due("end(0)", x.end(0), 0);
        x.feed(0x6d617a65, 0x20776964, 0x65203220, 0x6c6f6e67, 0x20323b40);
        due("end(21)", x.end(21), NONE);
        due("end(-1)", x.end(-1), NONE);
        due("end(MIN)", x.end(Integer.MIN_VALUE), NONE);
        due("count(7)", x.count(7), 20);
        due("end(20)", x.end(20), 20);
        due("end(19)", x.end(19), 19);
        due("count(7)", x.count(7), 19);
        due("end(20)", x.end(20), NONE);
        due("maze()", x.maze(), 1);
    }

    private void maze() {
        promise(4);
        HedgeMaze x = new HedgeMaze();
        Checker.lay(x, RING);
        due("maze()", x.maze(), 7);
        due("count(7)", x.count(7), 0);
        due("night(0, 4)", x.night(0, 4), 0);
        Checker.lay(x, "maze wide 2 long 2;gate");
        due("maze()", x.maze(), -4);
        due("count(0)", x.count(0), 3);
        due("count(7)", x.count(7), 23);
        due("gone(NONE)", x.gone(NONE), 1);
        due("what(4, 2)", x.what(4, 2), 1);
        Checker.lay(x, " at 1 1 ; law near ;\n");
        due("maze()", x.maze(), 3);
        due("count(0)", x.count(0), 2);
        due("count(2)", x.count(2), 0);
        due("count(5)", x.count(5), 0);
        due("count(9)", x.count(9), NONE);
        due("gone(NONE)", x.gone(NONE), 0);
        due("gate(3)", x.gate(3), 0);
        Checker.lay(x, " \n ");
        due("maze()", x.maze(), 0);
        due("count(7)", x.count(7), 0);
        due("sides()", x.sides(), -2);
        due("count(8)", x.count(8), 0);
        due("count(4)", x.count(4), 0);
        reads("maze wide2long5;", 1);
        reads("\nmaze\nwide\n002\nlong\n0000000000000000000005\n;\n", 1);
        reads(GREAT + tubs("hedge", 12) + "wall at 0 3 east;wall at 1 3 east;wall at 2 3 east;"
            + "wall at 3 3 east;", 17);
        reads(GREAT + tubs("wall", 12) + "hedge at 0 1 east;", 14);
        reads(SQUARE + "guest at 0 0;guest at 0 0;guest at 0 0;guest at 0 0;guest at 0 0;", 6);
        reads(SQUARE + "gate at 0 0;gate at 1 0;gate at 0 1;gate at 1 1;letter at 0 0;law far;", 7);
    }

    private void reads(String text, int lines) {
        HedgeMaze x = new HedgeMaze();
        Checker.lay(x, text);
        due("maze() of " + text, x.maze(), lines);
        due("fault(0)", x.fault(0), 0);
        due("fault(1)", x.fault(1), NONE);
        due("count(6)", x.count(6), lines);
    }

    /** Hedges to the east of cells of the rows 0 .. 2, walls of the rows 4 .. 2. */
    private static String tubs(String word, int many) {
        StringBuilder text = new StringBuilder();
        for (int i = 0; i < many; i++) {
            int y = word.equals("hedge") ? i / 4 : 4 - i / 4;
            text.append(word).append(" at ").append(i % 4).append(' ').append(y).append(" east;");
        }
        return text.toString();
    }

    private void spoilt(String text, int fault, int place) {
        HedgeMaze x = new HedgeMaze();
        Checker.lay(x, text);
        due("maze() of " + text, x.maze(), -4);
        due("fault(0) of " + text, x.fault(0), fault);
        due("fault(1) of " + text, x.fault(1), place);
    }

    private void faultsOfTokens() {
        promise(5);
        spoilt("wall at 0 0 east;", 1, 0);
        spoilt(";", 1, 0);
        spoilt("  2", 1, 2);
        spoilt("\n#", 1, 1);
        spoilt("Maze wide 2 long 2;", 1, 0);
        spoilt("mazewide 2 long 2;", 1, 0);
        spoilt("maz wide 2 long 2;", 1, 0);
        spoilt("mazes wide 2 long 2;", 1, 0);
        spoilt("maze", 1, 4);
        spoilt("maze  \n", 1, 7);
        spoilt("maze long 2 wide 2;", 1, 5);
        spoilt("maze wide x long 2;", 1, 10);
        spoilt("maze wide 2 wide 2;", 1, 12);
        spoilt("maze wide 2 long ;", 1, 17);
        spoilt("maze wide 2 long 2", 1, 18);
        spoilt("maze wide 2 long 2 2;", 1, 19);
        spoilt("maze\twide 2 long 2;", 1, 4);
        spoilt("maze wide 2 long 2\r;", 1, 18);
        spoilt("maze wide 2 long 2;;", 1, 19);
        spoilt("maze wide 2 long 2;??", 1, 19);
        spoilt(SQUARE + SQUARE, 1, 19);
        spoilt(SQUARE + ";", 1, 19);
        spoilt(SQUARE + "east", 1, 19);
        spoilt(SQUARE + "walls at 0 0 east;", 1, 19);
        spoilt(SQUARE + "\u00ff", 1, 19);
        spoilt(SQUARE + "\u0000", 1, 19);
        spoilt(SQUARE + "wall 0 0 east;", 1, 24);
        spoilt(SQUARE + "wall at east 0;", 1, 27);
        spoilt(SQUARE + "wall at 0 east;", 1, 29);
        spoilt(SQUARE + "wall at 0 0 north;", 1, 31);
        spoilt(SQUARE + "wall at 0 0;", 1, 30);
        spoilt(SQUARE + "hedge at 0 0 5;", 1, 32);
        spoilt(SQUARE + "gate at 0 0 east;", 1, 31);
        spoilt(SQUARE + "law north;", 1, 23);
        spoilt(SQUARE + "law;", 1, 22);
        spoilt(SQUARE + "law far near;", 1, 27);
        spoilt(SQUARE + "letter at 0 0", 1, 32);
    }

    private void faultsOfBounds() {
        spoilt("maze wide 1 long 2;", 2, 10);
        spoilt("maze wide 6 long 2;", 2, 10);
        spoilt("maze wide 2 long 1;", 2, 17);
        spoilt("maze wide 2 long 6;", 2, 17);
        spoilt("maze wide 4294967298 long 2;", 2, 10);
        spoilt("maze wide 18446744073709551618 long 2;", 2, 10);
        spoilt("maze wide 9 long x", 2, 10);
        spoilt(SQUARE + "wall at 2 0 east;", 2, 27);
        spoilt(SQUARE + "wall at 0 2 east;", 2, 29);
        spoilt(SQUARE + "wall at 1 0 east;", 2, 31);
        spoilt(SQUARE + "hedge at 0 1 south;", 2, 32);
        spoilt(SQUARE + "hedge at 0 0 east;wall at 0 0 east;", 2, 49);
        spoilt(SQUARE + "wall at 0 0 south;hedge at 0 0 south;", 2, 50);
        spoilt(SQUARE + "hedge at 0 0 east;hedge at 0 0 east;", 2, 50);
        spoilt(SQUARE + "gate at 2 0;", 2, 27);
        spoilt(SQUARE + "guest at 0 2;", 2, 30);
        spoilt(SQUARE + "letter at 0 9;", 2, 31);
        spoilt(SQUARE + "gate at 0 1;gate at 0 1;", 2, 41);
        spoilt(SQUARE + "gate at 0 1;gate at 0 1 ?", 2, 41);
        spoilt(SQUARE + "letter at 0 0;letter at 0 0;", 2, 33);
        spoilt(SQUARE + "letter at 0 0;letter", 2, 33);
        spoilt(SQUARE + "law far;law near;", 2, 27);
        spoilt(SQUARE + "law near; law", 2, 29);
        spoilt(SQUARE + "wall at 0 0 east;wall at 0 0 south;", 2, 54);
        spoilt(SQUARE + "wall at 0 0 east;hedge at 0 0 south; ", 2, 56);
        // the end has two faults: of one place the least
        spoilt(SQUARE + "wall at 0 0 east;wall at 0 0 south;gate", 1, 58);
        // cells that hang together no more are asked at the end alone
        spoilt(SQUARE + "wall at 0 0 east;wall at 0 0 south;gate at 2 0;", 2, 62);
    }

    private void faultsOfNumbers() {
        String hedges = GREAT + tubs("hedge", 12);
        spoilt(hedges + "hedge at 0 3 east;", 3, hedges.length());
        spoilt(hedges + "hedge", 3, hedges.length());
        String walls = GREAT + tubs("wall", 12);
        spoilt(walls + " wall at 0 0 east;", 3, walls.length() + 1);
        String gates = GREAT + "gate at 0 0;gate at 1 0;gate at 2 0;gate at 3 0;";
        spoilt(gates + "gate at 4 0;", 3, gates.length());
        String guests = SQUARE + "guest at 0 0;".repeat(5);
        spoilt(guests + "guest at 9 9;", 3, guests.length());
    }

    private void faultAsked() {
        HedgeMaze x = new HedgeMaze();
        due("fault(0)", x.fault(0), 0);
        due("fault(1)", x.fault(1), NONE);
        due("fault(2)", x.fault(2), NONE);
        due("fault(-1)", x.fault(-1), NONE);
        Checker.lay(x, "maze wide 2 long 7;");
        x.maze();
        due("fault(0)", x.fault(0), 2);
        due("fault(1)", x.fault(1), 17);
        due("fault(2)", x.fault(2), NONE);
        due("fault(-1)", x.fault(-1), NONE);
        x.end(0);
        due("fault(0)", x.fault(0), 2);
        x.maze();
        due("fault(0)", x.fault(0), 0);
        due("fault(1)", x.fault(1), NONE);
    }

    // ---- 6 .. 14 ----

    private void sides() {
        promise(6);
        due("sides()", Checker.told(SQUARE).sides(), 4);
        due("sides()", Checker.told(RING).sides(), 7);
        due("sides()", Checker.told(GREAT).sides(), 40);
        due("sides()", Checker.told("maze wide 2 long 5;").sides(), 13);
        due("sides()", new HedgeMaze().sides(), -2);
    }

    private void side() {
        promise(7);
        HedgeMaze x = Checker.told(RING);
        int[][] want = {{NONE, 0, 1, NONE}, {NONE, 2, 3, 0}, {NONE, NONE, 4, 2},
            {1, 5, NONE, NONE}, {3, 6, NONE, 5}, {4, NONE, NONE, 6}};
        for (int cell = 0; cell < 6; cell++) {
            for (int way = 0; way < 4; way++) {
                due("side(" + cell + ", " + way + ")", x.side(cell, way), want[cell][way]);
            }
        }
        due("side(6, 0)", x.side(6, 0), -2);
        due("side(-1, 0)", x.side(-1, 0), -2);
        due("side(0, 4)", x.side(0, 4), -2);
        due("side(0, -1)", x.side(0, -1), -2);
        due("side(MAX, MAX)", x.side(Integer.MAX_VALUE, Integer.MAX_VALUE), -2);
        due("side(0, 1)", new HedgeMaze().side(0, 1), -2);
        HedgeMaze great = Checker.told(GREAT);
        due("side(24, 0)", great.side(24, 0), 35);
        due("side(24, 3)", great.side(24, 3), 39);
    }

    private void what() {
        promise(8);
        HedgeMaze x = Checker.told(RING);
        int[][] want = {{0, 1, 1}, {0, 3, 0}, {1, 2, 0}, {1, 4, 2}, {2, 5, 0}, {3, 4, 0}, {4, 5, 0}};
        for (int side = 0; side < 7; side++) {
            for (int what = 0; what < 3; what++) {
                due("what(" + side + ", " + what + ")", x.what(side, what), want[side][what]);
            }
        }
        due("what(7, 0)", x.what(7, 0), -2);
        due("what(-1, 0)", x.what(-1, 0), -2);
        due("what(0, 3)", x.what(0, 3), -2);
        due("what(0, -1)", x.what(0, -1), -2);
        due("what(0, 0)", new HedgeMaze().what(0, 0), -2);
    }

    private void far() {
        promise(9);
        HedgeMaze x = Checker.told(RING);
        due("far(0, 1)", x.far(0, 1), 5);
        due("far(1, 0)", x.far(1, 0), 5);
        due("far(0, 0)", x.far(0, 0), 0);
        due("far(5, 3)", x.far(5, 3), 2);
        due("far(0, 6)", x.far(0, 6), -2);
        due("far(6, 0)", x.far(6, 0), -2);
        due("far(0, -1)", x.far(0, -1), -2);
        due("far(-1, 0)", x.far(-1, 0), -2);
        due("far(0, 0)", new HedgeMaze().far(0, 0), -2);
        x.night(0, 4);
        due("far(0, 1)", x.far(0, 1), 1);
        due("far(0, 24)", Checker.told(GREAT).far(0, 24), 8);
        // a way that winds through all 25 cells
        HedgeMaze snake = Checker.told(GREAT
            + "wall at 0 0 south;wall at 1 0 south;wall at 2 0 south;wall at 3 0 south;"
            + "wall at 1 1 south;wall at 2 1 south;wall at 3 1 south;wall at 4 1 south;"
            + "wall at 0 2 south;wall at 1 2 south;wall at 2 2 south;wall at 3 2 south;"
            + "hedge at 1 3 south;hedge at 2 3 south;hedge at 3 3 south;hedge at 4 3 south;");
        due("far(0, 24)", snake.far(0, 24), 24);
        due("shape(2)", snake.shape(2), 24);
        due("within(0, 23)", snake.within(0, 23), 24);
        due("within(0, 24)", snake.within(0, 24), 25);
        due("way(0, 24, 24)", snake.way(0, 24, 24), 24);
        due("way(0, 24, 25)", snake.way(0, 24, 25), NONE);
        due("bridge(NONE)", snake.bridge(NONE), 24);
    }

    private void way() {
        promise(10);
        HedgeMaze x = Checker.told(FIELD);
        wayIs(x, 0, 8, 0, 1, 2, 5, 8);
        wayIs(x, 8, 0, 8, 5, 2, 1, 0);
        wayIs(x, 6, 2, 6, 3, 0, 1, 2);
        wayIs(x, 2, 6, 2, 5, 8, 7, 6);
        wayIs(x, 4, 4, 4);
        wayIs(Checker.told(RING), 0, 1, 0, 3, 4, 5, 2, 1);
        // a side that is shut sends the first way elsewhere
        wayIs(Checker.told(FIELD + "hedge at 1 0 east;"), 0, 8, 0, 1, 4, 5, 8);
        due("way(9, 0, 0)", x.way(9, 0, 0), -2);
        due("way(0, 9, 0)", x.way(0, 9, 0), -2);
        due("way(-1, 0, 0)", x.way(-1, 0, 0), -2);
        due("way(0, -1, 0)", x.way(0, -1, 0), -2);
        due("way(0, 1, 0)", new HedgeMaze().way(0, 1, 0), -2);
    }

    private void wayIs(HedgeMaze x, int from, int to, int... cells) {
        for (int i = 0; i < cells.length; i++) {
            due("way(" + from + ", " + to + ", " + i + ")", x.way(from, to, i), cells[i]);
        }
        due("way, a step more", x.way(from, to, cells.length), NONE);
        due("way, many more", x.way(from, to, Integer.MAX_VALUE), NONE);
        due("way(.., -1)", x.way(from, to, -1), NONE);
    }

    private void gate() {
        promise(11);
        HedgeMaze x = Checker.told(RING);
        int[] want = {4, 1, 0, 3, 2, 1};
        for (int cell = 0; cell < 6; cell++) {
            due("gate(" + cell + ")", x.gate(cell), want[cell]);
        }
        due("gate(6)", x.gate(6), -2);
        due("gate(-1)", x.gate(-1), -2);
        due("gate(0)", new HedgeMaze().gate(0), -2);
        due("gate(0)", Checker.told(SQUARE).gate(0), NONE);
        due("gate(4)", Checker.told(SQUARE).gate(4), -2);
        due("gate(6)", Checker.told(FIELD + "gate at 2 0;gate at 1 2;").gate(6), 1);
    }

    private void within() {
        promise(12);
        HedgeMaze x = Checker.told(RING);
        due("within(0, 0)", x.within(0, 0), 1);
        due("within(0, 2)", x.within(0, 2), 3);
        due("within(4, 1)", x.within(4, 1), 3);
        due("within(0, 4)", x.within(0, 4), 5);
        due("within(0, 5)", x.within(0, 5), 6);
        due("within(0, 99)", x.within(0, 99), 6);
        due("within(0, 100)", x.within(0, 100), -2);
        due("within(0, -1)", x.within(0, -1), -2);
        due("within(6, 1)", x.within(6, 1), -2);
        due("within(-1, 1)", x.within(-1, 1), -2);
        due("within(0, 1)", new HedgeMaze().within(0, 1), -2);
        due("within(4, 1)", Checker.told(FIELD).within(4, 1), 5);
    }

    private void shape() {
        promise(13);
        HedgeMaze x = Checker.told(RING);
        due("shape(0)", x.shape(0), 2);
        due("shape(1)", x.shape(1), 0);
        due("shape(2)", x.shape(2), 5);
        due("shape(3)", x.shape(3), 5);
        HedgeMaze field = Checker.told(FIELD);
        due("shape(0)", field.shape(0), 0);
        due("shape(1)", field.shape(1), 4);
        due("shape(2)", field.shape(2), 4);
        due("shape(3)", field.shape(3), 12);
        due("shape(4)", x.shape(4), -2);
        due("shape(-1)", x.shape(-1), -2);
        due("shape(0)", new HedgeMaze().shape(0), -2);
    }

    private void bridge() {
        promise(14);
        HedgeMaze x = Checker.told(RING);
        int[] want = {1, 2, 4, 5, 6};
        due("bridge(NONE)", x.bridge(NONE), 5);
        for (int i = 0; i < 5; i++) {
            due("bridge(" + i + ")", x.bridge(i), want[i]);
        }
        due("bridge(5)", x.bridge(5), NONE);
        due("bridge(MAX)", x.bridge(Integer.MAX_VALUE), NONE);
        due("bridge(-2)", x.bridge(-2), -2);
        due("bridge(NONE)", new HedgeMaze().bridge(NONE), -2);
        HedgeMaze field = Checker.told(FIELD);
        due("bridge(NONE)", field.bridge(NONE), 0);
        due("bridge(0)", field.bridge(0), NONE);
        HedgeMaze handles = Checker.told("maze wide 3 long 2;wall at 2 0 south;");
        due("bridge(NONE)", handles.bridge(NONE), 2);
        due("bridge(0)", handles.bridge(0), 2);
        due("bridge(1)", handles.bridge(1), 6);
    }

    // ---- 15 .. 26 ----

    private void lawful() {
        promise(15);
        HedgeMaze x = Checker.told(RING);
        due("lawful(0, 1)", x.lawful(0, 1), 0);
        due("lawful(1, 2)", x.lawful(1, 2), 1);
        due("lawful(3, 1)", x.lawful(3, 1), 1);
        due("lawful(1, 1)", x.lawful(1, 1), 1);
        due("lawful(0, 3)", x.lawful(0, 3), 2);
        due("lawful(0, 0)", x.lawful(0, 0), 2);
        due("lawful(7, 0)", x.lawful(7, 0), -2);
        due("lawful(0, 7)", x.lawful(0, 7), -2);
        due("lawful(-1, 0)", x.lawful(-1, 0), -2);
        due("lawful(0, -1)", x.lawful(0, -1), -2);
        due("lawful(0, 0)", new HedgeMaze().lawful(0, 0), -2);
        int[] far = {2, 0, 4, 0, 2, 0, 4};
        int[] near = {2, 0, 4, 0, 2, 3, 3};
        HedgeMaze wherever = Checker.told(HANDLES + "law far;");
        HedgeMaze close = Checker.told(HANDLES + "law near;");
        for (int to = 0; to < 7; to++) {
            due("lawful(0, " + to + "), far", wherever.lawful(0, to), far[to]);
            due("lawful(0, " + to + "), near", close.lawful(0, to), near[to]);
        }
        due("lawful(0, 4)", Checker.told(HANDLES).lawful(0, 4), 2);
        due("lawful(0, 5)", Checker.told(HANDLES).lawful(0, 5), 0);
    }

    private void manyAndNth() {
        promise(16);
        due("many()", Checker.told(RING).many(), 5);
        due("many()", Checker.told(HANDLES).many(), 3);
        due("many()", Checker.told(HANDLES + "law near;").many(), 2);
        due("many()", Checker.told(SQUARE).many(), 0);
        due("many()", new HedgeMaze().many(), -2);
        due("many()", Checker.told(FIELD + "hedge at 0 0 east;hedge at 1 1 east;").many(), 19);
        promise(17);
        listIs(Checker.told(RING), 1, 2, 4, 5, 6);
        listIs(Checker.told(HANDLES), 1, 3, 5);
        listIs(Checker.told(HANDLES + "law near;"), 1, 3);
        listIs(Checker.told(SQUARE + "law near;hedge at 0 1 east;"), 301, 302);
        listIs(Checker.told(SQUARE));
        due("nth(0)", new HedgeMaze().nth(0), -2);
        due("nth(-1)", new HedgeMaze().nth(-1), -2);
    }

    private void listIs(HedgeMaze x, int... nights) {
        for (int i = 0; i < nights.length; i++) {
            due("nth(" + i + ")", x.nth(i), nights[i]);
        }
        due("nth, one more", x.nth(nights.length), NONE);
        due("nth(MAX)", x.nth(Integer.MAX_VALUE), NONE);
        due("nth(-1)", x.nth(-1), NONE);
        due("nth(-2)", x.nth(-2), NONE);
    }

    private void night() {
        promise(18);
        HedgeMaze x = Checker.told(RING);
        due("night(1, 2)", x.night(1, 2), 1);
        due("night(0, 3)", x.night(0, 3), 2);
        due("night(0, 7)", x.night(0, 7), -2);
        due("night(-1, 0)", x.night(-1, 0), -2);
        due("gone(NONE)", x.gone(NONE), 0);
        due("night(0, 4)", x.night(0, 4), 0);
        due("what(0, 2)", x.what(0, 2), 0);
        due("what(4, 2)", x.what(4, 2), 1);
        due("night(0, 4)", x.night(0, 4), 1);
        due("night(4, 0)", x.night(4, 0), 0);
        due("night(0, 0)", new HedgeMaze().night(0, 0), -2);
        due("night(0, 2)", Checker.told(HANDLES).night(0, 2), 4);
        due("night(0, 5)", Checker.told(HANDLES + "law near;").night(0, 5), 3);
        for (int i = 2; i < 99; i++) {
            due("night " + i, i % 2 == 0 ? x.night(0, 6) : x.night(6, 0), 0);
        }
        due("gone(NONE)", x.gone(NONE), 99);
        due("night(0, 6)", x.night(0, 6), 1);
        due("night(6, 3)", x.night(6, 3), 2);
        due("night(6, 9)", x.night(6, 9), -2);
        due("night(6, 1)", x.night(6, 1), -3);
        due("what(6, 2)", x.what(6, 2), 1);
        due("gone(NONE)", x.gone(NONE), 99);
        x.dawn();
        due("night(0, 1)", x.night(0, 1), 0);
        due("gone(98)", x.gone(98), 1);
        due("gone(99)", x.gone(99), NONE);
    }

    private void dawn() {
        promise(19);
        HedgeMaze x = Checker.told(RING);
        due("dawn()", x.dawn(), 0);
        x.night(0, 4);
        x.night(4, 6);
        due("dawn()", x.dawn(), 1);
        due("what(4, 2)", x.what(4, 2), 1);
        due("what(6, 2)", x.what(6, 2), 0);
        due("gone(NONE)", x.gone(NONE), 1);
        due("dawn()", x.dawn(), 1);
        due("what(0, 2)", x.what(0, 2), 1);
        due("what(4, 2)", x.what(4, 2), 0);
        due("dawn()", x.dawn(), 0);
        due("count(2)", x.count(2), 1);
        due("dawn()", new HedgeMaze().dawn(), -2);
    }

    private void gone() {
        promise(20);
        HedgeMaze x = Checker.told(RING);
        due("gone(NONE)", x.gone(NONE), 0);
        due("gone(0)", x.gone(0), NONE);
        x.night(0, 4);
        x.night(4, 1);
        due("gone(NONE)", x.gone(NONE), 2);
        due("gone(0)", x.gone(0), 4);
        due("gone(1)", x.gone(1), 401);
        due("gone(2)", x.gone(2), NONE);
        due("gone(MAX)", x.gone(Integer.MAX_VALUE), NONE);
        due("gone(-2)", x.gone(-2), -2);
        due("gone(NONE)", new HedgeMaze().gone(NONE), -2);
    }

    private void may() {
        promise(21);
        HedgeMaze x = Checker.told(RING);
        due("may(0, 1)", x.may(0, 1), 1);
        due("may(1, 1)", x.may(1, 1), 3);
        due("may(3, 1)", x.may(3, 1), 4);
        due("may(3, 2)", x.may(3, 2), 4);
        due("may(0, 2)", x.may(0, 2), 3);
        HedgeMaze handles = Checker.told(HANDLES);
        due("may(2, 1)", handles.may(2, 1), 1);
        due("may(2, 2)", handles.may(2, 2), 1);
        due("may(5, 1)", handles.may(5, 1), 3);
        HedgeMaze near = Checker.told(HANDLES + "law near;");
        due("may(5, 1)", near.may(5, 1), 1);
        due("may(5, 2)", near.may(5, 2), 3);
        HedgeMaze bare = Checker.told(SQUARE + "wall at 0 0 east;");
        due("may(1, 1)", bare.may(1, 1), 0);
        due("may(1, 2)", bare.may(1, 2), 0);
        due("may(0, 1)", bare.may(0, 1), 4);
        due("may(0, 0)", x.may(0, 0), -2);
        due("may(0, 3)", x.may(0, 3), -2);
        due("may(7, 1)", x.may(7, 1), -2);
        due("may(-1, 1)", x.may(-1, 1), -2);
        due("may(0, 1)", new HedgeMaze().may(0, 1), -2);
        due("what(0, 2)", x.what(0, 2), 1);
    }

    private void nights() {
        promise(22);
        HedgeMaze x = Checker.told(RING);
        due("nights(0)", x.nights(0), -6);
        due("nights(4)", x.nights(4), -2);
        due("nights(-1)", x.nights(-1), -2);
        due("nights(0)", new HedgeMaze().nights(0), -2);
        nightsTo(x, 0, 0);
        nightsTo(x, 1, 4);
        nightsTo(x, -2, 3);
        nightsTo(x, -2, 7);
        nightsTo(x, -2, -1);
        nightsTo(x, -7);
        nightsTo(x, -7, 9, 9);
        HedgeMaze near = Checker.told(RING + "law near;");
        nightsTo(near, 2, 5);
        nightsTo(near, 2, 4);
        nightsTo(near, 3, 6);
        // a bridge goes nowhere, and two more do not come to one side
        nightsTo(Checker.told(HANDLES), NONE, 2);
        HedgeMaze field = Checker.told(FIELD + "hedge at 0 0 east;hedge at 1 0 east;");
        nightsTo(field, 0, 2, 0);
        nightsTo(field, 1, 0, 11);
        nightsTo(field, 2, 8, 11);
        nightsTo(field, -2, 5, 5);
        nightsTo(field, -2, 0, 12);
        nightsTo(Checker.told(SQUARE), 0);
        HedgeMaze four = Checker.told(GREAT
            + "hedge at 0 0 east;hedge at 1 0 east;hedge at 2 0 east;hedge at 3 0 east;");
        nightsTo(four, 3, 36, 37, 38, 0);
        nightsTo(four, NONE, 36, 37, 38, 39);
        // down a column: only if the hedge ahead goes first, the one behind it comes where it was
        HedgeMaze column = Checker.told("maze wide 2 long 5;law near;hedge at 0 0 south;"
            + "hedge at 0 1 south;");
        nightsTo(column, 2, 4, 7);
        nightsTo(column, 3, 4, 10);
        nightsTo(column, NONE, 7, 10);
        Checker.fill(x, 0, 3, 1L << 32);
        due("nights(0)", x.nights(0), -2);
        Checker.fill(x, 0, 0, 256 + 4);
        due("nights(0)", x.nights(0), 1);
    }

    private void nightsTo(HedgeMaze x, int want, long... sides) {
        Checker.fill(x, 1, 1, sides);
        due("nights(1) to " + java.util.Arrays.toString(sides), x.nights(1), want);
    }

    private void out() {
        promise(23);
        HedgeMaze x = Checker.told(RING);
        due("out(0, 0, 1)", x.out(0, 0, 1), -6);
        due("out(4, 0, 1)", x.out(4, 0, 1), -2);
        due("out(-1, 0, 1)", x.out(-1, 0, 1), -2);
        due("out(0, 6, 1)", x.out(0, 6, 1), -2);
        due("out(0, -1, 1)", x.out(0, -1, 1), -2);
        due("out(0, 0, 0)", x.out(0, 0, 0), -2);
        due("out(0, 0, 100)", x.out(0, 0, 100), -2);
        due("out(0, 0, 1)", new HedgeMaze().out(0, 0, 1), -2);
        Checker.fill(x, 0, 1);
        due("out, no night, 4 steps", x.out(0, 0, 4), 0);
        due("out, no night, 3 steps", x.out(0, 0, 3), NONE);
        due("out, at the gate", x.out(0, 2, 1), 0);
        Checker.fill(x, 0, 1, 1);
        due("out(0, 0, 2)", x.out(0, 0, 2), 1);
        due("out(0, 0, 4)", x.out(0, 0, 4), 0);
        due("out(0, 0, 1)", x.out(0, 0, 1), NONE);
        due("out(0, 0, 99)", x.out(0, 0, 99), 0);
        Checker.fill(x, 0, 1, 1, 102);
        due("out behind two nights, from 0", x.out(0, 0, 1), NONE);
        due("out behind two nights, from 3", x.out(0, 3, 1), 2);
        Checker.fill(x, 0, 1, 6, 602);
        due("out behind two nights, from 4", x.out(0, 4, 1), 1);
        due("out behind two nights, from 3", x.out(0, 3, 1), NONE);
        Checker.fill(x, 0, 1, 101);
        due("out, no hedge", x.out(0, 2, 1), -5);
        Checker.fill(x, 0, 1, 3);
        due("out, onto a wall", x.out(0, 2, 1), -5);
        Checker.fill(x, 0, 1, 1, 1);
        due("out, the second not lawful", x.out(0, 0, 99), -5);
        for (long wrong : new long[] {-1, 7, 99, 700, 1L << 32, Long.MAX_VALUE, Long.MIN_VALUE, -100}) {
            Checker.fill(x, 0, 3, wrong);
            due("out, night " + wrong, x.out(0, 0, 4), -5);
        }
        due("what(0, 2)", x.what(0, 2), 1);
        due("gone(NONE)", x.gone(NONE), 0);
        HedgeMaze shut = Checker.told(HANDLES + "gate at 0 0;law near;");
        Checker.fill(shut, 0, 1, 5);
        due("out, not near", shut.out(0, 0, 1), -5);
        Checker.fill(shut, 0, 1, 2);
        due("out, onto a bridge", shut.out(0, 0, 1), -5);
        Checker.fill(shut, 0, 1, 3);
        due("out", shut.out(0, 2, 2), 1);
    }

    private void heldAndHold() {
        promise(24);
        HedgeMaze x = Checker.told(RING);
        due("held(0, 2, 1)", x.held(0, 2, 1), 1);
        due("held(0, 4, 1)", x.held(0, 4, 1), 0);
        due("held(0, 2, 2)", x.held(0, 2, 2), 1);
        due("held(5, 2, 2)", x.held(5, 2, 2), 0);
        due("held(0, 3, 1)", x.held(0, 3, 1), 1);
        due("held(0, 3, 2)", x.held(0, 3, 2), 0);
        due("held(2, 1, 1)", x.held(2, 1, 1), 0);
        due("held(0, 0, 1)", x.held(0, 0, 1), -2);
        due("held(0, 100, 1)", x.held(0, 100, 1), -2);
        due("held(0, 1, 0)", x.held(0, 1, 0), -2);
        due("held(0, 1, 4)", x.held(0, 1, 4), -2);
        due("held(6, 1, 1)", x.held(6, 1, 1), -2);
        due("held(-1, 1, 1)", x.held(-1, 1, 1), -2);
        due("held(0, 1, 1)", new HedgeMaze().held(0, 1, 1), -2);
        HedgeMaze bare = Checker.told(FIELD + "gate at 0 0;");
        due("held(8, 1, 3)", bare.held(8, 1, 3), 1);
        due("held(7, 1, 3)", bare.held(7, 1, 3), 0);
        promise(25);
        due("hold(2, 1)", x.hold(2, 1), 2);
        due("hold(1, 1)", x.hold(1, 1), 3);
        due("hold(2, 2)", x.hold(2, 2), 2);
        due("hold(3, 1)", x.hold(3, 1), 1);
        due("hold(3, 2)", x.hold(3, 2), 0);
        due("hold(99, 1)", x.hold(99, 1), 0);
        due("hold(0, 1)", x.hold(0, 1), -2);
        due("hold(100, 1)", x.hold(100, 1), -2);
        due("hold(1, 0)", x.hold(1, 0), -2);
        due("hold(1, 4)", x.hold(1, 4), -2);
        due("hold(1, 1)", new HedgeMaze().hold(1, 1), -2);
        due("hold(1, 3)", bare.hold(1, 3), 1);
        due("hold(1, 2)", bare.hold(1, 2), 3);
        due("hold(99, 3)", Checker.told(RING.replace("gate at 2 0;", "")).hold(99, 3), 6);
        due("hold(1, 3)", Checker.told(SQUARE).hold(1, 3), 4);
    }

    private void worst() {
        promise(26);
        HedgeMaze x = Checker.told(RING);
        due("worst(0)", x.worst(0), 2);
        due("worst(5)", x.worst(5), 4);
        due("worst(2)", x.worst(2), 1);
        due("worst(6)", x.worst(6), -2);
        due("worst(-1)", x.worst(-1), -2);
        due("worst(0)", new HedgeMaze().worst(0), -2);
        due("worst(0)", Checker.told(SQUARE + "gate at 0 0;").worst(0), NONE);
        due("worst(0)", Checker.told(HANDLES).worst(0), NONE);
        due("gone(NONE)", x.gone(NONE), 0);
    }

    // ---- 27 .. 35 ----

    private void guest() {
        promise(27);
        HedgeMaze x = Checker.told(RING);
        due("guest(0)", x.guest(0), 0);
        due("guest(1)", x.guest(1), 5);
        due("guest(2)", x.guest(2), NONE);
        due("guest(-1)", x.guest(-1), NONE);
        due("guest(0)", new HedgeMaze().guest(0), NONE);
        due("guest(4)", Checker.told(SQUARE + "guest at 1 0;".repeat(5)).guest(4), 1);
    }

    private void meet() {
        promise(28);
        HedgeMaze x = Checker.told(RING);
        due("meet(0)", x.meet(0), 3);
        due("meet(1)", x.meet(1), 2);
        due("meet(2)", x.meet(2), 3);
        due("meet(3)", x.meet(3), -2);
        due("meet(-1)", x.meet(-1), -2);
        due("meet(0)", new HedgeMaze().meet(0), -2);
        HedgeMaze empty = Checker.told(SQUARE);
        for (int what = 0; what < 3; what++) {
            due("meet(" + what + ")", empty.meet(what), NONE);
        }
        HedgeMaze one = Checker.told(FIELD + "guest at 2 2;");
        due("meet(0)", one.meet(0), 8);
        due("meet(1)", one.meet(1), 0);
        due("meet(2)", one.meet(2), 0);
        // the one who has most counts, not all together
        HedgeMaze three = Checker.told("maze wide 5 long 2;guest at 0 0;guest at 0 0;guest at 4 0;");
        due("meet(0)", three.meet(0), 2);
        due("meet(1)", three.meet(1), 2);
        due("meet(2)", three.meet(2), 6);
    }

    private void teaAndServed() {
        promise(29);
        HedgeMaze x = Checker.told(RING);
        due("tea(1)", x.tea(1), 10);
        due("tea(0)", x.tea(0), 6);
        due("tea(6)", x.tea(6), -2);
        due("tea(-1)", x.tea(-1), -2);
        due("tea(0)", new HedgeMaze().tea(0), -2);
        due("tea(0)", Checker.told(SQUARE).tea(0), 0);
        // corners and the middle of a field: round it goes, by the middle between two of them
        HedgeMaze five = Checker.told(FIELD
            + "guest at 2 2;guest at 0 2;guest at 1 1;guest at 2 0;guest at 0 0;");
        due("tea(0)", five.tea(0), 10);
        due("tea(4)", five.tea(4), 10);
        promise(30);
        due("served(1, 0)", x.served(1, 0), 0);
        due("served(1, 1)", x.served(1, 1), 1);
        due("served(1, 2)", x.served(1, 2), NONE);
        due("served(1, -1)", x.served(1, -1), NONE);
        due("served(6, 0)", x.served(6, 0), -2);
        due("served(-1, 0)", x.served(-1, 0), -2);
        due("served(0, 0)", new HedgeMaze().served(0, 0), -2);
        due("served(0, 0)", Checker.told(SQUARE).served(0, 0), NONE);
        int[] want = {1, 0, 2, 3, 4};
        for (int i = 0; i < 5; i++) {
            due("served(0, " + i + ")", five.served(0, i), want[i]);
        }
        due("served(0, 5)", five.served(0, 5), NONE);
        HedgeMaze row = Checker.told("maze wide 5 long 2;guest at 3 0;guest at 1 0;guest at 2 0;");
        due("tea(0)", row.tea(0), 6);
        due("served(0, 0)", row.served(0, 0), 0);
        due("served(0, 1)", row.served(0, 1), 2);
        due("served(0, 2)", row.served(0, 2), 1);
    }

    private void letter() {
        promise(31);
        HedgeMaze x = Checker.told(RING);
        due("letter(0)", x.letter(0), 0);
        due("letter(1)", x.letter(1), 2);
        x.goes(1, 3);
        due("letter(0)", x.letter(0), 1);
        due("letter(1)", x.letter(1), 1);
        x.goes(0, 3);
        due("letter(0), both at one step", x.letter(0), 0);
        x.goes(1, 4);
        due("letter(0)", x.letter(0), 1);
        due("letter(1)", x.letter(1), 0);
        x.goes(0, 1);
        x.goes(1, 5);
        due("letter(0), nobody", x.letter(0), NONE);
        due("letter(1), nobody", x.letter(1), NONE);
        due("letter(2)", x.letter(2), -2);
        due("letter(-1)", x.letter(-1), -2);
        due("letter(0)", new HedgeMaze().letter(0), -2);
        due("letter(0)", Checker.told(RING.replace("gate at 2 0;", "")).letter(0), NONE);
        due("letter(0)", Checker.told(RING.replace("letter at 1 1;", "")).letter(0), NONE);
        due("letter(1)", Checker.told(SQUARE + "gate at 0 0;letter at 0 0;").letter(1), NONE);
        // to the gate that is told first, not to the nearest or the least one, by the first way
        HedgeMaze two = Checker.told(FIELD + "gate at 2 2;gate at 0 0;guest at 0 1;letter at 2 1;");
        due("letter(1)", two.letter(1), 2);
        HedgeMaze not = Checker.told(FIELD + "gate at 2 2;gate at 0 0;guest at 0 1;letter at 1 2;");
        due("letter(1)", not.letter(1), NONE);
        HedgeMaze last = Checker.told(FIELD + "gate at 2 2;guest at 0 0;letter at 2 2;");
        due("letter(1)", last.letter(1), 4);
    }

    private void goes() {
        promise(32);
        HedgeMaze x = Checker.told(RING);
        due("goes(1, 4)", x.goes(1, 4), 5);
        due("guest(1)", x.guest(1), 4);
        due("goes(1, 0)", x.goes(1, 0), 4);
        due("goes(2, 0)", x.goes(2, 0), -2);
        due("goes(-1, 0)", x.goes(-1, 0), -2);
        due("goes(0, 6)", x.goes(0, 6), -2);
        due("goes(0, -1)", x.goes(0, -1), -2);
        due("guest(0)", x.guest(0), 0);
        due("goes(0, 0)", new HedgeMaze().goes(0, 0), -2);
    }

    private void walkAndEnds() {
        promise(33);
        HedgeMaze x = Checker.told(RING);
        due("walk(0, 0)", x.walk(0, 0), -6);
        walkIs(x, 0, 5, 1, 2, 1, 1, 0, 3);
        walkIs(x, 0, 0, 0, 1);
        walkIs(x, 0, 1, 0, 5);
        walkIs(x, 0, 0, 0);
        walkIs(x, 0, 0, 0, 0);
        walkIs(x, 0, 1, 0, 4);
        walkIs(x, 0, 2, 0, 7, 4, 6, 5);
        walkIs(x, 1, 4, 5, 1, 2, 6, 5, 4, 7);
        walkIs(x, 4, 1, 4, 4, 2, 6);
        refusesWalk(0);
        promise(34);
        due("ends(0, 0)", Checker.told(RING).ends(0, 0), -6);
        refusesWalk(1);
    }

    private void walkIs(HedgeMaze x, int cell, int steps, int end, long... row) {
        Checker.fill(x, 2, 0, row);
        String walk = java.util.Arrays.toString(row) + " from " + cell;
        due("walk " + walk, x.walk(2, cell), steps);
        due("ends " + walk, x.ends(2, cell), end);
    }

    private int walkOrEnds(int which, HedgeMaze x, int slot, int cell) {
        return which == 0 ? x.walk(slot, cell) : x.ends(slot, cell);
    }

    private void refusesWalk(int which) {
        HedgeMaze x = Checker.told(RING);
        due("slot 4", walkOrEnds(which, x, 4, 0), -2);
        due("slot -1", walkOrEnds(which, x, -1, 0), -2);
        due("cell 6", walkOrEnds(which, x, 0, 6), -2);
        due("cell -1", walkOrEnds(which, x, 0, -1), -2);
        due("nothing", walkOrEnds(which, x, 0, 0), -6);
        Checker.fill(x, 0, 3, 1, 8);
        due("8, behind a step that is not so", walkOrEnds(which, x, 0, 0), -2);
        Checker.fill(x, 0, 3, -1);
        due("-1", walkOrEnds(which, x, 0, 0), -2);
        Checker.fill(x, 0, 3, 1L << 32);
        due("2^32", walkOrEnds(which, x, 0, 0), -2);
        due("no maze", walkOrEnds(which, new HedgeMaze(), 0, 0), -2);
    }

    private void odd() {
        promise(35);
        HedgeMaze x = Checker.told(RING);
        due("odd(0, 0, 4, 0, 0), nothing in the first", x.odd(0, 0, 4, 0, 0), -6);
        Checker.fill(x, 0, 0, 1);
        due("odd(0, 0, 4, 0, 0)", x.odd(0, 0, 4, 0, 0), -2);
        due("odd(0, 0, 1, 0, 0)", x.odd(0, 0, 1, 0, 0), -6);
        due("odd(0, 0, 1, 6, 0)", x.odd(0, 0, 1, 6, 0), -2);
        due("odd(0, 6, 1, 0, 0)", x.odd(0, 6, 1, 0, 0), -2);
        due("odd(-1, 0, 1, 0, 0)", x.odd(-1, 0, 1, 0, 0), -2);
        Checker.fill(x, 1, 0, 5);
        due("odd(0, 0, 1, 0, 0)", x.odd(0, 0, 1, 0, 0), 1);
        due("odd(0, 0, 1, 0, 1)", x.odd(0, 0, 1, 0, 1), 0);
        due("odd(1, 0, 0, 0, 0)", x.odd(1, 0, 0, 0, 0), 1);
        due("odd(1, 0, 1, 0, 0)", x.odd(1, 0, 1, 0, 0), 0);
        due("odd(1, 0, 1, 0, 1)", x.odd(1, 0, 1, 0, 1), NONE);
        due("odd(0, 0, 1, 0, 2)", x.odd(0, 0, 1, 0, 2), -2);
        due("odd(0, 0, 1, 0, -1)", x.odd(0, 0, 1, 0, -1), -2);
        Checker.fill(x, 2, 0, 8);
        due("odd, a number that is no step", x.odd(2, 0, 3, 0, 0), -2);
        due("odd, the other's", x.odd(0, 0, 2, 0, 0), -2);
        due("odd, no maze", new HedgeMaze().odd(0, 0, 0, 0, 0), -2);
        // through hedge and wall in thought; over the edge one stays and tells nothing
        Checker.fill(x, 0, 0, 0, 3, 1, 2);
        Checker.fill(x, 1, 0, 4, 5, 7, 6);
        due("odd, sides of cell 1", x.odd(0, 0, 1, 1, 0), 2);
        due("odd, the first of them", x.odd(0, 0, 1, 1, 1), 0);
        due("odd, the other way about", x.odd(1, 1, 0, 0, 0), 2);
        due("odd, sides of cell 4", x.odd(0, 0, 1, 4, 0), 1);
        due("odd, side 3", x.odd(0, 0, 1, 4, 1), 3);
        // a walk that tells a side both ways is not at odds with one that tells neither
        Checker.fill(x, 2, 0, 1, 7);
        Checker.fill(x, 3, 0);
        due("odd, nothing told", x.odd(2, 0, 3, 0, 0), 0);
        due("odd, with itself", x.odd(2, 0, 2, 0, 0), 1);
    }

    // ---- 36 .. 44 ----

    private void openings() {
        promise(36);
        HedgeMaze x = Checker.told(RING);
        due("openings(NONE)", x.openings(NONE), 1);
        due("openings(0)", x.openings(0), 0);
        due("openings(1)", x.openings(1), NONE);
        due("openings(-2)", x.openings(-2), -2);
        due("openings(NONE)", new HedgeMaze().openings(NONE), -2);
        HedgeMaze field = Checker.told(FIELD + "hedge at 0 0 east;");
        due("openings(NONE), cell 0 on one side", field.openings(NONE), 1);
        HedgeMaze whole = Checker.told(FIELD + "hedge at 1 1 east;");
        due("openings(NONE), no bridge", whole.openings(NONE), 0);
        due("openings(0)", whole.openings(0), NONE);
        HedgeMaze handles = Checker.told(HANDLES);
        due("openings(NONE), never", handles.openings(NONE), NONE);
        due("openings(0)", handles.openings(0), NONE);
        String corners = GREAT + "hedge at 0 0 east;hedge at 3 0 east;hedge at 0 4 east;";
        HedgeMaze three = Checker.told(corners);
        due("openings(NONE)", three.openings(NONE), 3);
        due("openings(0)", three.openings(0), 0);
        due("openings(1)", three.openings(1), 6);
        due("openings(2)", three.openings(2), 36);
        due("openings(3)", three.openings(3), NONE);
        HedgeMaze four = Checker.told(corners + "hedge at 3 4 east;");
        due("openings(NONE), four", four.openings(NONE), NONE);
        due("openings(0), four", four.openings(0), NONE);
        // a ring shut twice: either hedge alone leaves bridges; the first of two rows
        HedgeMaze twice = Checker.told("maze wide 4 long 2;hedge at 1 0 south;hedge at 2 0 south;"
            + "hedge at 3 0 south;");
        due("openings(NONE), three of which the last does", twice.openings(NONE), 1);
        due("openings(0)", twice.openings(0), 6);
        due("bridge(NONE)", x.bridge(NONE), 5);
    }

    private void drawnAndLastly() {
        promise(37);
        HedgeMaze x = Checker.told(RING);
        int[] far = {4, 2, 2, 2, 4};
        int[] fromFive = {1, 1, 1, 5, 1};
        int[] night = {NONE, 1, 105, 504, 402};
        for (int n = 0; n < 5; n++) {
            due("drawn(0, " + n + ", 0)", x.drawn(0, n, 0), far[n]);
            due("drawn(0, " + n + ", 5)", x.drawn(0, n, 5), fromFive[n]);
        }
        due("drawn(-1, 1, 0)", x.drawn(-1, 1, 0), -2);
        due("drawn(2000000001, 1, 0)", x.drawn(2000000001, 1, 0), -2);
        due("drawn(2000000000, 1, 5)", x.drawn(2000000000, 1, 5), 1);
        due("drawn(0, -1, 0)", x.drawn(0, -1, 0), -2);
        due("drawn(0, 41, 0)", x.drawn(0, 41, 0), -2);
        due("drawn(0, 1, 6)", x.drawn(0, 1, 6), -2);
        due("drawn(0, 1, -1)", x.drawn(0, 1, -1), -2);
        due("drawn(0, 1, 0)", new HedgeMaze().drawn(0, 1, 0), -2);
        due("drawn(5, 40, 0), no gate", Checker.told(HANDLES).drawn(5, 40, 0), NONE);
        due("drawn(5, 40, 3), no hedge", Checker.told(SQUARE + "gate at 0 0;").drawn(5, 40, 3), 2);
        promise(38);
        for (int n = 0; n < 5; n++) {
            due("lastly(0, " + n + ")", x.lastly(0, n), night[n]);
        }
        due("lastly(7, 1)", x.lastly(7, 1), 6);
        due("lastly(7, 2)", x.lastly(7, 2), 601);
        due("lastly(2000000000, 1)", x.lastly(2000000000, 1), 6);
        due("lastly(2000000000, 2)", x.lastly(2000000000, 2), 604);
        due("lastly(2000000001, 1)", x.lastly(2000000001, 1), -2);
        due("lastly(-1, 1)", x.lastly(-1, 1), -2);
        due("lastly(0, -1)", x.lastly(0, -1), -2);
        due("lastly(0, 41)", x.lastly(0, 41), -2);
        due("lastly(0, 1)", new HedgeMaze().lastly(0, 1), -2);
        due("lastly(5, 40), no hedge", Checker.told(SQUARE).lastly(5, 40), NONE);
        due("what(0, 2)", x.what(0, 2), 1);
        due("gone(NONE)", x.gone(NONE), 0);
    }

    private void count() {
        promise(39);
        HedgeMaze x = Checker.told("maze wide 4 long 3;hedge at 0 0 east;hedge at 1 0 east;"
            + "wall at 0 1 east;wall at 1 1 east;wall at 2 2 east;gate at 0 0;gate at 1 0;"
            + "guest at 0 0;guest at 0 0;guest at 1 0;guest at 2 0;letter at 3 1;law near;");
        Checker.lay(x, "maze");
        x.row(1, 0, 0);
        x.row(3, 0, 4);
        x.row(3, 2, 4);
        int[] want = {4, 3, 2, 3, 2, 4, 14, 4, 1, 7, 2};
        for (int what = 0; what < want.length; what++) {
            due("count(" + what + ")", x.count(what), want[what]);
        }
        due("count(11)", x.count(11), NONE);
        due("count(-1)", x.count(-1), NONE);
        due("count(MAX)", x.count(Integer.MAX_VALUE), NONE);
        due("count(8)", Checker.told(SQUARE + "law far;").count(8), 0);
        due("count(9)", Checker.told(SQUARE).count(9), NONE);
        due("count(9)", Checker.told(SQUARE + "letter at 0 0;").count(9), 0);
    }

    private void keepAndBack() {
        promise(40);
        HedgeMaze x = Checker.told(RING);
        due("keep(3)", x.keep(3), -2);
        due("keep(-1)", x.keep(-1), -2);
        due("keep(0)", x.keep(0), 0);
        x.night(0, 4);
        x.goes(0, 2);
        due("keep(2)", x.keep(2), 0);
        x.night(4, 6);
        x.goes(0, 3);
        promise(41);
        due("back(3)", x.back(3), -2);
        due("back(-1)", x.back(-1), -2);
        due("back(1)", x.back(1), -6);
        due("what(6, 2)", x.what(6, 2), 1);
        due("back(2)", x.back(2), 0);
        due("what(6, 2)", x.what(6, 2), 0);
        due("what(4, 2)", x.what(4, 2), 1);
        due("gone(NONE)", x.gone(NONE), 1);
        due("gone(0)", x.gone(0), 4);
        due("guest(0)", x.guest(0), 2);
        due("dawn()", x.dawn(), 1);
        due("back(2), once more", x.back(2), 0);
        due("gone(NONE)", x.gone(NONE), 1);
        due("back(0)", x.back(0), 0);
        due("gone(NONE)", x.gone(NONE), 0);
        due("guest(0)", x.guest(0), 0);
        due("what(0, 2)", x.what(0, 2), 1);
        // tape, slots and the latest fault are no part of an image
        Checker.fill(x, 0, 0, 5);
        Checker.lay(x, "?");
        x.maze();
        x.back(0);
        due("count(7)", x.count(7), 1);
        due("count(10)", x.count(10), 1);
        due("fault(0)", x.fault(0), 1);
        x.end(0);
        Checker.lay(x, SQUARE + "law near;gate at 1 1;");
        x.maze();
        due("sides()", x.sides(), 4);
        due("keep(1)", x.keep(1), 0);
        due("back(0)", x.back(0), 0);
        due("sides()", x.sides(), 7);
        due("count(3)", x.count(3), 1);
        due("count(8)", x.count(8), 0);
        due("count(9)", x.count(9), 4);
        due("count(6)", x.count(6), 7);
        due("gate(2)", x.gate(2), 0);
        due("back(1)", x.back(1), 0);
        due("count(6)", x.count(6), 3);
        due("count(8)", x.count(8), 1);
        due("gate(0)", x.gate(0), 2);
        // an image may have that there is no maze
        x.maze();
        due("keep(1)", x.keep(1), 0);
        x.back(0);
        due("back(1)", x.back(1), 0);
        due("sides()", x.sides(), -2);
        due("count(0)", x.count(0), 0);
        due("guest(0)", x.guest(0), NONE);
    }

    private void row() {
        promise(42);
        HedgeMaze x = Checker.told(RING);
        due("row(4, 0, 1)", x.row(4, 0, 1), -2);
        due("row(-1, 0, 1)", x.row(-1, 0, 1), -2);
        due("row(0, 4, 1)", x.row(0, 4, 1), -2);
        due("row(0, -1, 1)", x.row(0, -1, 1), -2);
        due("row(0, 3, 61)", x.row(0, 3, 61), -2);
        due("row(0, 4, -1)", x.row(0, 4, -1), -2);
        due("row(4, 0, -1)", x.row(4, 0, -1), -2);
        due("row(0, 0, MAX)", x.row(0, 0, Integer.MAX_VALUE), -2);
        due("row(0, 0, -1)", x.row(0, 0, -1), -3);
        due("row(0, 0, MIN)", x.row(0, 0, Integer.MIN_VALUE), -3);
        due("count(10)", x.count(10), 0);
        for (int slot = 0; slot < 4; slot++) {
            due("row(" + slot + ", " + slot + ", 60)", x.row(slot, slot, 60), 0);
            due("write(" + slot + ", 59, 3)", x.write(slot, 59, 3), 0);
            due("write(" + slot + ", 60, 3)", x.write(slot, 60, 3), -7);
        }
        due("count(10)", x.count(10), 4);
        Checker.fill(x, 0, 0, 5, 5);
        due("row(0, 0, -1)", x.row(0, 0, -1), -3);
        due("walk(0, 0), the row stays", x.walk(0, 0), 2);
        due("row(0, 1, 61)", x.row(0, 1, 61), -2);
        due("walk(0, 0), the row stays", x.walk(0, 0), 2);
        due("row(0, 1, 2)", x.row(0, 1, 2), 0);
        due("walk(0, 0), all are 0", x.walk(0, 0), 0);
        due("walk(0, 3), all are 0", x.walk(0, 3), 1);
        due("row(0, 0, 0)", x.row(0, 0, 0), 0);
        due("walk(0, 0), an empty row", x.walk(0, 0), 0);
        due("write(0, 0, 0)", x.write(0, 0, 0), -7);
        due("row(0, 0, 2)", x.row(0, 0, 2), 0);
        due("walk(0, 0), all are 0 again", x.walk(0, 0), 0);
    }

    private void write() {
        promise(43);
        HedgeMaze x = Checker.told(RING);
        due("write(4, 0, 1)", x.write(4, 0, 1), -2);
        due("write(-1, 0, 1)", x.write(-1, 0, 1), -2);
        due("write(0, 0, 1)", x.write(0, 0, 1), -6);
        x.row(0, 0, 2);
        due("write(0, 2, 1)", x.write(0, 2, 1), -7);
        due("write(0, -1, 1)", x.write(0, -1, 1), -7);
        due("write(0, 1, 5)", x.write(0, 1, 5), 0);
        due("write(0, 0, 5)", x.write(0, 0, 5), 0);
        due("walk(0, 0)", x.walk(0, 0), 2);
        // 5 and a number that the width cuts off; one bit lower it stays
        for (int width = 0; width < 4; width++) {
            int bits = 8 << width;
            Checker.fill(x, 1, width, width < 3 ? 5 + (1L << bits) : 5);
            due("walk, cut to width " + width, x.walk(1, 0), 1);
            Checker.fill(x, 1, width, 5 - (width < 3 ? 1L << bits : 0));
            due("walk, cut from below to width " + width, x.walk(1, 0), 1);
            Checker.fill(x, 1, width, 5 + (1L << (bits - 1)));
            due("walk, not cut to width " + width, x.walk(1, 0), -2);
            Checker.fill(x, 1, width, -1);
            due("walk, -1 of width " + width, x.walk(1, 0), -2);
        }
    }

    private void paste() {
        promise(44);
        HedgeMaze x = Checker.told(RING);
        due("paste(4, 0, 0, 0, 0)", x.paste(4, 0, 0, 0, 0), -2);
        due("paste(0, 0, 4, 0, 0)", x.paste(0, 0, 4, 0, 0), -2);
        due("paste(-1, 0, 0, 0, 0)", x.paste(-1, 0, 0, 0, 0), -2);
        due("paste(0, 0, -1, 0, 0)", x.paste(0, 0, -1, 0, 0), -2);
        due("paste(0, 0, 0, 0, 0)", x.paste(0, 0, 0, 0, 0), -6);
        Checker.fill(x, 0, 1, 2, 1, 1, 0, 3);
        due("paste(0, 0, 1, 0, 0)", x.paste(0, 0, 1, 0, 0), -6);
        due("paste(1, 0, 0, 0, 0)", x.paste(1, 0, 0, 0, 0), -6);
        due("paste(1, 0, 4, 0, 0)", x.paste(1, 0, 4, 0, 0), -2);
        x.row(1, 0, 5);
        due("paste(0, 0, 1, 0, 1)", x.paste(0, 0, 1, 0, 1), -8);
        due("paste(0, 0, 1, 0, 99)", x.paste(0, 0, 1, 0, 99), -8);
        x.row(1, 1, 3);
        due("paste(0, 0, 1, 0, 4)", x.paste(0, 0, 1, 0, 4), -7);
        due("paste(0, 3, 1, 0, 3)", x.paste(0, 3, 1, 0, 3), -7);
        due("paste(0, 0, 1, 1, 3)", x.paste(0, 0, 1, 1, 3), -7);
        due("paste(0, -1, 1, 0, 1)", x.paste(0, -1, 1, 0, 1), -7);
        due("paste(0, 0, 1, -1, 1)", x.paste(0, 0, 1, -1, 1), -7);
        due("paste(0, 0, 1, 0, -1)", x.paste(0, 0, 1, 0, -1), -7);
        due("paste(0, MAX, 1, 0, MAX)", x.paste(0, Integer.MAX_VALUE, 1, 0, Integer.MAX_VALUE), -7);
        due("paste(0, 1, 1, 1, MAX)", x.paste(0, 1, 1, 1, Integer.MAX_VALUE), -7);
        due("walk(1, 3), nothing happened", x.walk(1, 3), 1);
        due("paste(0, 5, 1, 3, 0)", x.paste(0, 5, 1, 3, 0), 0);
        due("paste(0, 0, 1, 0, 3)", x.paste(0, 0, 1, 0, 3), 0);
        due("walk(1, 0)", x.walk(1, 0), 3);
        due("ends(1, 0)", x.ends(1, 0), 5);
        // onto itself, both ways, as they were: 2 2 1 1 0, then 2 1 1 0 0
        due("paste(0, 0, 0, 1, 4)", x.paste(0, 0, 0, 1, 4), 0);
        due("walk(0, 0)", x.walk(0, 0), 1);
        due("paste(0, 1, 0, 0, 4)", x.paste(0, 1, 0, 0, 4), 0);
        due("walk(0, 0)", x.walk(0, 0), 4);
        due("ends(0, 0)", x.ends(0, 0), 2);
        due("write(0, 4, 7)", x.write(0, 4, 7), 0);
        due("walk(0, 0), west of 2 is open", x.walk(0, 0), 4);
    }

    // ---- what is as full as it may be ----

    private void fullRows() {
        check.about("rows of sixty");
        HedgeMaze x = Checker.told(HANDLES);
        long[] steps = new long[60];
        long[] nights = new long[60];
        for (int i = 0; i < 60; i++) {
            steps[i] = i % 2 == 0 ? 1 : 3;
            nights[i] = i % 2 == 0 ? 5 : 500;
        }
        Checker.fill(x, 0, 0, steps);
        Checker.fill(x, 1, 1, nights);
        due("walk(0, 1)", x.walk(0, 1), 60);
        due("ends(0, 1)", x.ends(0, 1), 1);
        due("walk(0, 0)", x.walk(0, 0), 0);
        due("odd(0, 1, 0, 1, 0)", x.odd(0, 1, 0, 1, 0), 0);
        due("walk(1, 0)", x.walk(1, 0), -2);
        due("out(1, 0, 1)", x.out(1, 0, 1), NONE);
        due("nights(1)", x.nights(1), -7);
        due("write(1, 59, 6)", x.write(1, 59, 506), 0);
        due("out(1, 0, 1)", x.out(1, 0, 1), -5);
        due("row(2, 1, 60)", x.row(2, 1, 60), 0);
        due("paste(1, 0, 2, 0, 60)", x.paste(1, 0, 2, 0, 60), 0);
        due("paste(1, 0, 2, 0, 61)", x.paste(1, 0, 2, 0, 61), -7);
        due("paste(1, 60, 2, 60, 0)", x.paste(1, 60, 2, 60, 0), 0);
        due("paste(1, 60, 2, 60, 1)", x.paste(1, 60, 2, 60, 1), -7);
        due("out(2, 0, 1)", x.out(2, 0, 1), -5);
    }

    private void fullTape() {
        check.about("a full tape");
        String blanks = " ".repeat(1600 - SQUARE.length());
        HedgeMaze x = new HedgeMaze();
        Checker.lay(x, SQUARE + blanks);
        due("count(7)", x.count(7), 1600);
        due("maze()", x.maze(), 1);
        due("count(7)", x.count(7), 0);
        reads(blanks + SQUARE, 1);
        reads("maze wide 2 long " + "0".repeat(1581) + "5;", 1);
        spoilt((SQUARE + blanks).substring(0, 1595) + "gates", 1, 1595);
        spoilt((SQUARE + blanks).substring(0, 1596) + "gate", 1, 1600);
        spoilt("maze wide 2 long " + "5".repeat(1583), 2, 17);
        spoilt(";".repeat(1600), 1, 0);
    }
}
