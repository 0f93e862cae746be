/** Promises 1 to 14, sentence by sentence: the tape, the maze, its cells, sides and ways. */
public final class MazeEdgesTest extends Sentences {
    /** Cells 0 3 4 5 2 1 in a ring that the hedge on side 0 shuts; a wall in it, on side 3. */
    private static final String RING = "maze wide 3 long 2;hedge at 0 0 east;wall at 1 0 south;"
        + "gate at 2 0;guest at 0 0;guest at 2 1;letter at 1 1;";
    private static final String SQUARE = "maze wide 2 long 2;";
    private static final String FIELD = "maze wide 3 long 3;";
    private static final String GREAT = "maze wide 5 long 5;";
    /** One way through all 25 cells, by 12 walls and 4 hedges. */
    private static final String SNAKE = GREAT
        + "wall at 0 0 south;wall at 1 0 south;wall at 2 0 south;wall at 3 0 south;"
        + "wall at 1 1 south;wall at 2 1 south;wall at 3 1 south;wall at 4 1 south;"
        + "wall at 0 2 south;wall at 1 2 south;wall at 2 2 south;wall at 3 2 south;"
        + "hedge at 1 3 south;hedge at 2 3 south;hedge at 3 3 south;hedge at 4 3 south;";

    public static void main(String[] args) {
        MazeEdgesTest test = new MazeEdgesTest();
        test.newObject();
        test.feed();
        test.end();
        test.maze();
        test.fault();
        test.sidesOfCells();
        test.far();
        test.way();
        test.gateAndWithin();
        test.shape();
        test.bridge();
        test.finishPromises(1, 14);
    }

    private void newObject() {
        promise(1);
        says("No MAZE.");
        fresh();
        thereIsNoMaze();
        due("end(0)", 0);
        due("count(10)", 0);
        each("back(#)", -6, -6, -6);
        for (int slot = 0; slot < 4; slot++) {
            due("write(" + slot + ", 0, 0)", -6);
        }
        // what asks for nothing of a maze goes without one
        due("row(0, 0, 1)", 0);
        due("write(0, 0, 1)", 0);
        due("keep(0)", 0);
        due("back(0)", 0);
        due("feed(0, 0, 0, 0, 0)", 20);
        thereIsNoMaze(20);
        // a row that a walk, nights and an out could do with does not help
        fill(0, 0);
        fill(1, 0);
        all(-2, "nights(0)", "out(0, 0, 1)", "walk(0, 0)", "ends(0, 0)", "odd(0, 0, 1, 0, 0)");
    }

    private void thereIsNoMaze() {
        thereIsNoMaze(0);
    }

    private void thereIsNoMaze(int bytes) {
        all(-2, "sides()", "side(0, 1)", "what(0, 2)", "far(0, 0)", "way(0, 0, 0)", "gate(0)",
            "within(0, 0)", "shape(0)", "bridge(NONE)", "bridge(0)", "lawful(0, 1)", "many()",
            "nth(0)", "night(0, 1)", "dawn()", "gone(NONE)", "gone(0)", "may(0, 1)", "nights(0)",
            "out(0, 0, 1)", "held(0, 1, 1)", "hold(1, 1)", "worst(0)", "meet(0)", "tea(0)",
            "served(0, 0)", "letter(0)", "goes(0, 0)", "walk(0, 0)", "ends(0, 0)",
            "odd(0, 0, 1, 0, 0)", "openings(NONE)", "openings(0)", "drawn(0, 0, 0)", "lastly(0, 0)");
        due("guest(0)", NONE);
        each("count(#)", 0, 0, 0, 0, 0, 0, 0, bytes, 0, NONE);
        due("fault(0)", 0);
        due("fault(1)", NONE);
    }

    private void feed() {
        promise(2);
        says("Twenty bytes come behind the TAPE, four of each number, the highest first: how many it has;");
        // a sign that is no token, at each of the twenty places in turn; all others are blanks
        for (int place = 0; place < 20; place++) {
            for (int sign : new int[] {'?', 0, 127, 128, 255}) {
                int[] five = {0x20202020, 0x20202020, 0x20202020, 0x20202020, 0x20202020};
                int shift = 24 - 8 * (place % 4);
                five[place / 4] = five[place / 4] & ~(255 << shift) | sign << shift;
                fresh();
                check.due("feed", x.feed(five[0], five[1], five[2], five[3], five[4]), 20);
                due("maze()", -4);
                due("fault(0)", 1);
                due("fault(1)", place);
            }
        }
        fresh();
        // "maze wide 2 long 2;" and a blank
        due("feed(1835104869, 544696676, 1696608800, 1819242087, 540162848)", 20);
        due("maze()", 1);
        due("feed(0, 0, 0, 0, 0)", 20);
        due("feed(0, 0, 0, 0, 0)", 40);
        due("end(33)", 33);
        due("feed(0, 0, 0, 0, 0)", 53);
        says("NONE, and none come, if it would have more than 1,600.");
        for (int left = 0; left <= 21; left++) {
            fresh();
            Checker.lay(x, " ".repeat(1600 - left - 1) + "?");
            due("count(7)", 1600 - left);
            due("feed(MIN, MAX, -1, 0, 1)", left < 20 ? NONE : 1620 - left);
            due("count(7)", left < 20 ? 1600 - left : 1620 - left);
            due("maze()", -4);
            due("fault(1)", 1600 - left - 1);
        }
        fresh();
        Checker.lay(x, " ".repeat(1581) + SQUARE);
        due("feed(-1, -1, -1, -1, -1)", NONE);
        due("maze()", 1);
        due("feed(-1, -1, -1, -1, -1)", 20);
    }

    private void end() {
        promise(3);
        says("The TAPE has its first n bytes alone: n;");
        fresh();
        due("end(0)", 0);
        Checker.lay(x, SQUARE + "law near;?");
        due("end(29)", 29);
        due("end(28)", 28);
        due("count(7)", 28);
        due("maze()", 2);
        Checker.lay(x, SQUARE + "law near;?");
        due("end(19)", 19);
        due("maze()", 1);
        Checker.lay(x, "?".repeat(1600));
        due("end(1600)", 1600);
        due("end(1599)", 1599);
        due("end(0)", 0);
        due("count(7)", 0);
        due("maze()", 0);
        says("NONE, and nothing happens, if it has not so many, or n is below 0.");
        fresh();
        all(NONE, "end(1)", "end(-1)", "end(20)", "end(MAX)", "end(MIN)");
        Checker.lay(x, SQUARE);
        all(NONE, "end(20)", "end(21)", "end(1600)", "end(1601)", "end(MAX)", "end(-1)", "end(MIN)");
        due("count(7)", 19);
        due("maze()", 1);
        // bytes that were taken away do not come again
        Checker.lay(x, SQUARE);
        due("end(3)", 3);
        all(NONE, "end(4)", "end(19)");
        due("maze()", -4);
        due("fault(1)", 0);
    }

    private void maze() {
        promise(4);
        says("The TAPE (empty then) is the MAZE (in place of another): how many LINES (0: there is none"
            + " then); no NIGHTS are gone.");
        told(RING);
        due("count(7)", 0);
        due("count(6)", 7);
        due("night(0, 4)", 0);
        due("goes(0, 3)", 0);
        fill(0, 0, 1);
        Checker.lay(x, SQUARE + "law near;");
        due("maze()", 2);
        due("gone(NONE)", 0);
        due("gone(0)", NONE);
        due("dawn()", 0);
        each("count(#)", 2, 2, 0, 0, 0, 0, 2, 0, 1, NONE, 1);
        each("what(#, 2)", 0, 0, 0, 0, -2);
        due("guest(0)", NONE);
        due("letter(0)", NONE);
        due("gate(0)", NONE);
        due("lawful(0, 4)", -2);
        // a lesser one behind a greater: what it has not is no more there
        told(GREAT + "hedge at 3 4 east;gate at 4 4;guest at 4 4;");
        Checker.lay(x, SQUARE + "hedge at 0 0 east;gate at 0 0;");
        due("maze()", 3);
        due("sides()", 4);
        all(-2, "side(4, 0)", "what(4, 0)", "far(0, 4)", "gate(24)", "lawful(4, 1)", "lawful(0, 4)", "may(4, 1)",
            "night(0, 4)", "night(39, 0)", "goes(0, 0)");
        each("nth(#)", 1, 2, 3, NONE);
        for (int none : new int[] {4, 5, 39, 40}) {
            fill(0, 1, none);
            due("nights(0)", -2);
            due("out(0, 0, 1)", -5);
        }
        // the empty tape, and one of blanks alone
        for (String blanks : new String[] {"", " ", "\n", " \n ".repeat(533)}) {
            told(RING);
            due("night(0, 4)", 0);
            Checker.lay(x, blanks);
            due("maze()", 0);
            thereIsNoMaze();
        }
        // as many lines as there can be: 1, 12, 4, 4, 5, 1, 1
        reads(SNAKE.replace("hedge", "HEDGE").replace("wall", "hedge").replace("HEDGE", "wall")
            + "gate at 0 0;gate at 1 0;gate at 2 0;gate at 3 0;" + "guest at 4 4;".repeat(5)
            + "letter at 0 0;law near;", 28);
        each("count(#)", 5, 5, 12, 4, 4, 5, 28, 0, 1, 0);
        // 99 nights, and none is gone
        told(RING);
        for (int i = 0; i < 99; i++) {
            due(i % 2 == 0 ? "night(0, 4)" : "night(4, 0)", 0);
        }
        Checker.lay(x, RING);
        due("maze()", 7);
        due("gone(NONE)", 0);
        due("night(0, 4)", 0);
        says("-4: a FAULT (all stays).");
        told(RING);
        due("night(0, 4)", 0);
        due("goes(1, 3)", 5);
        Checker.lay(x, "maze wide 5 long 4;guest at 0 0;law near;gate at 0 0;gate at 0 0;");
        due("maze()", -4);
        due("maze()", -4);
        each("count(#)", 3, 2, 1, 1, 1, 2, 7, 65, 0, 4, 0);
        each("what(#, 2)", 0, 0, 0, 2, 1, 0, 0, -2);
        each("guest(#)", 0, 3, NONE);
        each("gone(#)", 4, NONE);
        due("dawn()", 1);
        due("what(0, 2)", 1);
        // the tape stays as it was: without its last line it is a maze
        due("end(53)", 53);
        due("maze()", 4);
        due("count(0)", 5);
        // a fault where there is no maze
        fresh();
        Checker.lay(x, "maze");
        due("maze()", -4);
        due("sides()", -2);
        each("count(#)", 0, 0, 0, 0, 0, 0, 0, 4, 0, NONE, 0);
    }

    private void fault() {
        promise(5);
        says("Of the latest maze(), what 0: its FAULT, 0 without, 1: its place (NONE without).");
        fresh();
        Checker.lay(x, "maze wide 2 long 7;");
        due("maze()", -4);
        each("fault(#)", 2, 17);
        due("end(16)", 16);
        each("fault(#)", 2, 17);
        due("maze()", -4);
        each("fault(#)", 1, 16);
        due("end(0)", 0);
        due("maze()", 0);
        each("fault(#)", 0, NONE);
        Checker.lay(x, "?");
        due("maze()", -4);
        each("fault(#)", 1, 0);
        due("end(0)", 0);
        Checker.lay(x, SQUARE);
        each("fault(#)", 1, 0);
        due("maze()", 1);
        each("fault(#)", 0, NONE);
        spoilt(GREAT + "guest at 0 0;".repeat(6), 3, 19 + 65);
        spoilt(" ".repeat(1599) + "?", 1, 1599);
        spoilt(" ".repeat(1596) + "maze", 1, 1600);
        says("NONE for another what, and ahead of any (what 1).");
        all(NONE, "fault(2)", "fault(-1)", "fault(MAX)", "fault(MIN)");
        fresh();
        all(NONE, "fault(1)", "fault(2)", "fault(-1)", "fault(MAX)", "fault(MIN)");
        due("fault(0)", 0);
    }

    private void sidesOfCells() {
        promise(6);
        says("How many SIDES there are.");
        int[] wants = {4, 7, 10, 13, 7, 12, 17, 22, 10, 17, 24, 31, 13, 22, 31, 40};
        for (int i = 0; i < 16; i++) {
            told("maze wide " + (2 + i / 4) + " long " + (2 + i % 4) + ";");
            due("sides()", wants[i]);
        }
        // walls and hedges are on sides; these are sides all the same
        told(SNAKE);
        due("sides()", 40);
        says("-2: there is no MAZE.");
        fresh();
        due("sides()", -2);
        promise(7);
        says("The SIDE of a CELL to the north (0), east (1), south (2), west (3); NONE: the edge of the MAZE.");
        told(RING);
        each("side(0, #)", NONE, 0, 1, NONE);
        each("side(1, #)", NONE, 2, 3, 0);
        each("side(2, #)", NONE, NONE, 4, 2);
        each("side(3, #)", 1, 5, NONE, NONE);
        each("side(4, #)", 3, 6, NONE, 5);
        each("side(5, #)", 4, NONE, NONE, 6);
        told(GREAT);
        each("side(24, #)", 35, NONE, NONE, 39);
        each("side(12, #)", 14, 22, 23, 20);
        says("-2: there are none such.");
        all(-2, "side(25, 0)", "side(-1, 0)", "side(0, 4)", "side(0, -1)", "side(25, 4)", "side(MAX, 0)",
            "side(MIN, 0)", "side(0, MAX)", "side(0, MIN)");
        told(SQUARE);
        all(-2, "side(4, 0)", "side(4, 3)", "side(3, 4)");
        promise(8);
        says("Of a SIDE, what 0: its first CELL, 1: the other one, 2: 0 OPEN, 1 a HEDGE, 2 a wall.");
        told(RING);
        each("what(#, 0)", 0, 0, 1, 1, 2, 3, 4);
        each("what(#, 1)", 1, 3, 2, 4, 5, 4, 5);
        each("what(#, 2)", 1, 0, 0, 2, 0, 0, 0);
        told(GREAT);
        each("what(39, #)", 23, 24, 0);
        says("-2: there are none such.");
        all(-2, "what(40, 0)", "what(-1, 0)", "what(0, 3)", "what(0, -1)", "what(MAX, 0)", "what(MIN, 0)",
            "what(0, MAX)", "what(0, MIN)");
    }

    private void far() {
        promise(9);
        says("Steps from a CELL to another one; NONE: one does not come there.");
        told(SNAKE);
        due("far(0, 24)", 24);
        due("far(24, 0)", 24);
        due("far(0, 9)", 5);
        told(RING);
        each("far(0, #)", 0, 5, 4, 1, 2, 3, -2);
        each("far(#, 1)", 5, 0, 1, 4, 3, 2, -2);
        // all cells hang together always, so that NONE is never due: not even behind a refused night
        told("maze wide 3 long 2;hedge at 0 0 east;wall at 2 0 south;");
        due("night(0, 6)", 4);
        each("far(5, #)", 3, 2, 3, 2, 1, 0);
        says("-2: there are none such.");
        all(-2, "far(0, 6)", "far(6, 0)", "far(-1, 0)", "far(0, -1)", "far(6, 6)", "far(MAX, 0)",
            "far(0, MAX)", "far(MIN, 0)", "far(0, MIN)");
        fresh();
        due("far(0, 0)", -2);
    }

    private void way() {
        promise(10);
        says("The CELL behind i steps (0: the one where it begins) of the FIRST WAY (II).");
        told(RING);
        each("way(0, 1, #)", 0, 3, 4, 5, 2, 1, NONE);
        each("way(1, 0, #)", 1, 2, 5, 4, 3, 0, NONE);
        each("way(5, 5, #)", 5, NONE);
        told(SNAKE);
        due("way(0, 24, 0)", 0);
        due("way(0, 24, 5)", 9);
        due("way(0, 24, 24)", 24);
        says("NONE: there is none such; -2 likewise.");
        all(NONE, "way(0, 24, 25)", "way(0, 24, -1)", "way(0, 24, MAX)", "way(0, 24, MIN)", "way(3, 3, 1)");
        all(-2, "way(25, 0, 0)", "way(0, 25, 0)", "way(-1, 0, 0)", "way(0, -1, 0)", "way(25, 0, 99)",
            "way(0, MAX, -1)", "way(MIN, 0, 0)");
        fresh();
        due("way(0, 0, 0)", -2);
    }

    private void gateAndWithin() {
        promise(11);
        says("Steps from a CELL to the nearest GATE; NONE: there is none.");
        told(RING);
        each("gate(#)", 4, 1, 0, 3, 2, 1);
        told(SNAKE + "gate at 4 4;");
        due("gate(0)", 24);
        due("gate(24)", 0);
        told(SNAKE + "gate at 4 4;gate at 4 2;gate at 0 3;gate at 2 0;");
        each("gate(#)", 2, 1, 0, 1, 2, 5, 6, 5, 4, 3);
        told(SQUARE);
        each("gate(#)", NONE, NONE, NONE, NONE);
        says("-2: there is none such.");
        all(-2, "gate(4)", "gate(-1)", "gate(MAX)", "gate(MIN)");
        fresh();
        due("gate(0)", -2);
        promise(12);
        says("How many CELLS are no more than n steps (0 .. 99) away (itself, too).");
        told(RING);
        each("within(0, #)", 1, 2, 3, 4, 5, 6, 6);
        each("within(4, #)", 1, 3, 5, 6);
        due("within(0, 99)", 6);
        told(SNAKE);
        due("within(0, 0)", 1);
        due("within(0, 23)", 24);
        due("within(0, 24)", 25);
        due("within(0, 98)", 25);
        due("within(0, 99)", 25);
        told(FIELD);
        each("within(4, #)", 1, 5, 9);
        says("-2: there are none such.");
        all(-2, "within(9, 1)", "within(-1, 1)", "within(0, -1)", "within(0, 100)", "within(0, MAX)",
            "within(0, MIN)", "within(MAX, 0)", "within(MIN, 0)");
        fresh();
        due("within(0, 0)", -2);
    }

    private void shape() {
        promise(13);
        says("What 0: CELLS with just one OPEN SIDE, 1: OPEN SIDES more than CELLS less 1, 2: the most steps"
            + " between two CELLS, 3: OPEN SIDES.");
        told(SQUARE);
        each("shape(#)", 0, 1, 2, 4);
        told(SQUARE + "hedge at 0 0 east;");
        each("shape(#)", 2, 0, 3, 3);
        told(RING);
        each("shape(#)", 2, 0, 5, 5);
        told(GREAT);
        each("shape(#)", 0, 16, 8, 40);
        told(SNAKE);
        each("shape(#)", 2, 0, 24, 24);
        // a comb: five ends below, one way above
        told("maze wide 5 long 2;wall at 0 1 east;wall at 1 1 east;hedge at 2 1 east;wall at 3 1 east;");
        each("shape(#)", 5, 0, 6, 9);
        says("-2: there is no such what, no MAZE.");
        all(-2, "shape(4)", "shape(-1)", "shape(MAX)", "shape(MIN)");
        fresh();
        each("shape(#)", -2, -2, -2, -2);
    }

    private void bridge() {
        promise(14);
        says("BRIDGES: OPEN SIDES without which not all CELLS hang together: how many (what NONE), the i-th"
            + " by number (what i).");
        told(SQUARE);
        due("bridge(NONE)", 0);
        due("bridge(0)", NONE);
        told(SQUARE + "wall at 0 1 east;");
        due("bridge(NONE)", 3);
        each("bridge(#)", 0, 1, 2, NONE);
        told(SNAKE);
        due("bridge(NONE)", 24);
        due("bridge(0)", 0);
        due("bridge(23)", 39);
        due("bridge(24)", NONE);
        told("maze wide 3 long 2;wall at 2 0 south;");
        due("bridge(NONE)", 2);
        each("bridge(#)", 2, 6, NONE);
        told(RING);
        each("bridge(#)", 1, 2, 4, 5, 6, NONE);
        says("NONE: there are not so many; -2: what is less, there is no MAZE.");
        all(NONE, "bridge(5)", "bridge(6)", "bridge(40)", "bridge(MAX)");
        all(-2, "bridge(-2)", "bridge(-3)", "bridge(MIN)");
        fresh();
        all(-2, "bridge(NONE)", "bridge(0)", "bridge(-2)");
    }
}
