/** Promises 15 to 26, sentence by sentence: nights, and who comes out in spite of them. */
public final class NightEdgesTest extends Sentences {
    /** Cells 0 3 4 5 2 1 in a ring that the hedge on side 0 shuts; a wall in it, on side 3. */
    private static final String RING = "maze wide 3 long 2;hedge at 0 0 east;wall at 1 0 south;"
        + "gate at 2 0;guest at 0 0;guest at 2 1;letter at 1 1;";
    /** A ring of the cells 0 1 4 3 with a hedge on side 0; 2 hangs on 1, 5 hangs on 4. */
    private static final String HANDLES = "maze wide 3 long 2;hedge at 0 0 east;wall at 2 0 south;";
    private static final String SQUARE = "maze wide 2 long 2;";
    private static final String FIELD = "maze wide 3 long 3;";
    private static final String GREAT = "maze wide 5 long 5;";

    public static void main(String[] args) {
        NightEdgesTest test = new NightEdgesTest();
        test.lawful();
        test.many();
        test.nth();
        test.night();
        test.dawn();
        test.gone();
        test.may();
        test.nights();
        test.nightsRefused();
        test.out();
        test.outRefused();
        test.held();
        test.worst();
        test.finishPromises(15, 26);
    }

    private void lawful() {
        promise(15);
        says("Whether a NIGHT (III) from a SIDE to another one is lawful: 0 it is, 1 there is no HEDGE, 2 that"
            + " one is not OPEN, 3 it is not near, 4 not all CELLS would hang together (the least number).");
        told(HANDLES);
        each("lawful(0, #)", 2, 0, 4, 0, 2, 0, 4);
        for (int from = 1; from < 7; from++) {
            each("lawful(" + from + ", #)", 1, 1, 1, 1, 1, 1, 1);
        }
        told(HANDLES + "law near;");
        // to 4, a wall that is not near: 2; to 6, a bridge that is not near: 3
        each("lawful(0, #)", 2, 0, 4, 0, 2, 3, 3);
        for (int from = 1; from < 7; from++) {
            each("lawful(" + from + ", #)", 1, 1, 1, 1, 1, 1, 1);
        }
        // to a side where another hedge is: 2, near or not
        told(FIELD + "law near;hedge at 0 0 east;hedge at 1 0 east;hedge at 1 2 east;");
        each("lawful(0, #)", 2, 0, 2, 0, 3, 3, 3, 3, 3, 3, 3, 2);
        says("-2: there are none such.");
        all(-2, "lawful(12, 0)", "lawful(0, 12)", "lawful(-1, 0)", "lawful(0, -1)", "lawful(1, 12)",
            "lawful(MAX, 0)", "lawful(0, MAX)", "lawful(MIN, 0)", "lawful(0, MIN)");
        fresh();
        due("lawful(0, 0)", -2);
    }

    private void many() {
        promise(16);
        says("How many lawful NIGHTS there are.");
        told(SQUARE);
        due("many()", 0);
        told(SQUARE + "wall at 0 0 east;");
        due("many()", 0);
        told(SQUARE + "hedge at 0 0 east;");
        due("many()", 3);
        told(GREAT + "hedge at 2 2 east;");
        due("many()", 39);
        // five columns that hang on a ladder of 13 sides: a hedge of row y may go to one of these, or
        // into one of two columns below it
        told(GREAT + twelveHedges());
        due("many()", 4 * (13 + 6) + 4 * (13 + 4) + 4 * (13 + 2));
        told(RING);
        due("many()", 5);
        due("night(0, 4)", 0);
        due("many()", 5);
        says("-2: there is no MAZE.");
        fresh();
        due("many()", -2);
    }

    private void nth() {
        promise(17);
        says("The i-th by the SIDE from which, then to which: 100 times the first and the other.");
        told(HANDLES);
        each("nth(#)", 1, 3, 5, NONE);
        told(HANDLES + "law near;");
        each("nth(#)", 1, 3, NONE);
        told(SQUARE + "hedge at 0 1 east;");
        each("nth(#)", 300, 301, 302, NONE);
        told(GREAT + "hedge at 3 4 east;");
        due("nth(0)", 3900);
        due("nth(38)", 3938);
        due("nth(39)", NONE);
        told(GREAT + "hedge at 3 4 east;hedge at 0 0 east;law near;");
        each("nth(#)", 1, 2, 3, 3934, 3935, 3938, NONE);
        says("NONE: there are not so many; -2 likewise.");
        all(NONE, "nth(6)", "nth(7)", "nth(480)", "nth(MAX)", "nth(-1)", "nth(-2)", "nth(MIN)");
        told(SQUARE);
        due("nth(0)", NONE);
        fresh();
        all(-2, "nth(0)", "nth(-1)", "nth(MAX)");
    }

    private void night() {
        promise(18);
        says("A NIGHT: 0; else, and nothing happens, as lawful(); -3: 99 are gone.");
        told(HANDLES + "law near;");
        due("night(1, 0)", 1);
        due("night(0, 0)", 2);
        due("night(0, 4)", 2);
        due("night(0, 5)", 3);
        due("night(0, 6)", 3);
        due("night(0, 2)", 4);
        all(-2, "night(0, 7)", "night(7, 0)", "night(-1, 1)", "night(0, -1)", "night(MAX, 1)", "night(0, MIN)");
        each("what(#, 2)", 1, 0, 0, 0, 2, 0, 0);
        due("gone(NONE)", 0);
        due("dawn()", 0);
        due("night(0, 1)", 0);
        each("what(#, 2)", 0, 1, 0, 0, 2, 0, 0);
        due("gone(NONE)", 1);
        for (int i = 1; i < 99; i++) {
            due(i % 2 == 0 ? "night(0, 1)" : "night(1, 0)", 0);
            due("gone(NONE)", i + 1);
        }
        // the 100th: what is not lawful is told first
        due("night(1, 0)", -3);
        due("night(1, 5)", -3);
        due("night(0, 1)", 1);
        due("night(1, 4)", 2);
        due("night(1, 2)", 3);
        due("night(1, 7)", -2);
        each("what(#, 2)", 0, 1, 0, 0, 2, 0, 0);
        due("gone(NONE)", 99);
        due("gone(98)", 1);
        due("dawn()", 1);
        due("night(0, 3)", 0);
        due("gone(98)", 3);
        due("night(3, 0)", -3);
        fresh();
        due("night(0, 0)", -2);
    }

    private void dawn() {
        promise(19);
        says("The latest NIGHT is undone: 1; 0: none is gone.");
        told(RING);
        due("dawn()", 0);
        due("night(0, 4)", 0);
        due("night(4, 6)", 0);
        due("dawn()", 1);
        each("what(#, 2)", 0, 0, 0, 2, 1, 0, 0);
        each("gone(#)", 4, NONE);
        due("dawn()", 1);
        each("what(#, 2)", 1, 0, 0, 2, 0, 0, 0);
        due("gone(NONE)", 0);
        due("dawn()", 0);
        due("dawn()", 0);
        each("what(#, 2)", 1, 0, 0, 2, 0, 0, 0);
        // all of 99 are undone, to where it began
        for (int i = 0; i < 99; i++) {
            due(new String[] {"night(0, 4)", "night(4, 6)", "night(6, 0)"}[i % 3], 0);
        }
        for (int i = 98; i >= 0; i--) {
            due("dawn()", 1);
            due("gone(NONE)", i);
        }
        due("dawn()", 0);
        each("what(#, 2)", 1, 0, 0, 2, 0, 0, 0);
        // guests stay where they went
        due("night(0, 1)", 0);
        due("goes(0, 4)", 0);
        due("dawn()", 1);
        due("guest(0)", 4);
        says("-2: there is no MAZE.");
        fresh();
        due("dawn()", -2);
    }

    private void gone() {
        promise(20);
        says("NIGHTS that are gone (what NONE), the i-th of them, as nth() (what i).");
        told(RING);
        due("gone(NONE)", 0);
        due("gone(0)", NONE);
        due("night(0, 4)", 0);
        due("night(4, 6)", 0);
        due("night(6, 1)", 0);
        due("gone(NONE)", 3);
        each("gone(#)", 4, 406, 601, NONE);
        says("NONE: there are not so many; -2 likewise, what is less.");
        all(NONE, "gone(3)", "gone(4)", "gone(98)", "gone(99)", "gone(MAX)");
        all(-2, "gone(-2)", "gone(-3)", "gone(MIN)");
        due("dawn()", 1);
        due("gone(2)", NONE);
        for (int i = 2; i < 99; i++) {
            due(i % 2 == 0 ? "night(6, 0)" : "night(0, 6)", 0);
        }
        due("gone(NONE)", 99);
        due("gone(98)", 600);
        all(NONE, "gone(99)", "gone(100)", "gone(MAX)");
        fresh();
        all(-2, "gone(NONE)", "gone(0)", "gone(-2)");
    }

    private void may() {
        promise(21);
        says("What may be on a SIDE behind n (1, 2) lawful NIGHTS from now: 1 it may be OPEN, 2 a HEDGE,"
            + " together (0: there are no such NIGHTS; a wall: 4).");
        told(RING + "law near;");
        each("may(#, 1)", 1, 3, 3, 4, 1, 1, 1);
        each("may(#, 2)", 3, 1, 1, 4, 3, 3, 1);
        told(RING);
        each("may(#, 1)", 1, 3, 3, 4, 3, 3, 3);
        each("may(#, 2)", 3, 3, 3, 4, 3, 3, 3);
        told(HANDLES);
        each("may(#, 1)", 1, 3, 1, 3, 4, 3, 1);
        each("may(#, 2)", 3, 3, 1, 3, 4, 3, 1);
        // a hedge that is moved or stays while another is
        told(FIELD + "hedge at 0 0 east;hedge at 1 0 east;");
        due("may(0, 1)", 3);
        due("may(11, 1)", 3);
        told(SQUARE + "wall at 0 0 east;");
        each("may(#, 1)", 4, 0, 0, 0);
        each("may(#, 2)", 4, 0, 0, 0);
        says("-2: there are none such.");
        all(-2, "may(4, 1)", "may(-1, 1)", "may(1, 0)", "may(1, 3)", "may(1, -1)", "may(1, MAX)",
            "may(1, MIN)", "may(MAX, 1)", "may(MIN, 1)", "may(0, 3)", "may(0, 0)");
        fresh();
        due("may(0, 1)", -2);
    }

    private void nights() {
        promise(22);
        says("The fewest lawful NIGHTS to where just SIDES of a SLOT's row have HEDGES (as many, unlike"
            + " ones); NONE: three do not.");
        // a ring of eight sides: 0 2 4 6 9 8 7 1
        told("maze wide 4 long 2;law near;hedge at 0 0 east;wall at 1 0 south;wall at 2 0 south;");
        int[] near = {0, 1, 1, -2, 2, -2, 3, 2, 3, NONE};
        for (int side = 0; side < 10; side++) {
            fill(0, 0, side);
            due("nights(0)", near[side]);
        }
        told("maze wide 4 long 2;hedge at 0 0 east;wall at 1 0 south;wall at 2 0 south;");
        fill(0, 0, 9);
        due("nights(0)", 1);
        // the other way round the ring, to its first side
        told("maze wide 4 long 2;law near;hedge at 3 0 south;wall at 1 0 south;wall at 2 0 south;");
        int[] back = {3, NONE, 2, -2, 1, -2, 0, 3, 2, 1};
        for (int side = 0; side < 10; side++) {
            fill(0, 0, side);
            due("nights(0)", back[side]);
        }
        told(HANDLES);
        fill(0, 0, 2);
        due("nights(0)", NONE);
        // none, one, two, three, four hedges of four go elsewhere, in any order
        told(GREAT + "hedge at 0 0 east;hedge at 1 0 east;hedge at 2 0 east;hedge at 3 0 east;");
        long[][] rows = {{6, 4, 2, 0}, {36, 2, 4, 6}, {0, 37, 2, 36}, {38, 37, 36, 0}, {36, 37, 38, 39}};
        for (int i = 0; i < rows.length; i++) {
            fill(0, i % 4, rows[i]);
            due("nights(0)", i == 4 ? NONE : i);
        }
        due("gone(NONE)", 0);
        // a row of no numbers where there are no hedges
        told(SQUARE);
        fill(3, 0);
        due("nights(3)", 0);
        // twelve of them
        told(GREAT + twelveHedges());
        long[] twelve = new long[12];
        for (int i = 0; i < 12; i++) {
            twelve[i] = 9 * (i / 4) + 2 * (i % 4);
        }
        fill(0, 0, twelve);
        due("nights(0)", 0);
        twelve[11] = 27;
        fill(0, 0, twelve);
        due("nights(0)", 1);
        fill(0, 0, java.util.Arrays.copyOf(twelve, 13));
        due("nights(0)", -7);
        fill(0, 0, java.util.Arrays.copyOf(twelve, 11));
        due("nights(0)", -7);
    }

    /** All sides to the east in the rows 0 .. 2. */
    private static String twelveHedges() {
        StringBuilder hedges = new StringBuilder();
        for (int i = 0; i < 12; i++) {
            hedges.append("hedge at ").append(i % 4).append(' ').append(i / 4).append(" east;");
        }
        return hedges.toString();
    }

    private void nightsRefused() {
        says("-2: there is no such SLOT, no MAZE, a number is no SIDE, is a wall, one is twice (asked last);"
            + " -6: it has nothing; -7: they are not as many.");
        told(FIELD + "hedge at 0 0 east;hedge at 1 0 east;wall at 0 1 east;");
        all(-2, "nights(-1)", "nights(4)", "nights(MAX)", "nights(MIN)");
        for (int slot = 0; slot < 4; slot++) {
            due("nights(" + slot + ")", -6);
        }
        rowIs(0, 0, 2);
        rowIs(2, 10, 11);
        rowIs(-2, 0, 12);
        rowIs(-2, 12, 0);
        rowIs(-2, 0, -1);
        rowIs(-2, 0, 5);
        rowIs(-2, 5, 0);
        rowIs(-2, 0, 0);
        rowIs(-2, 11, 11);
        rowIs(-2, 0, Long.MAX_VALUE);
        rowIs(-2, 0, Long.MIN_VALUE);
        rowIs(-2, 0, 2 + (1L << 32));
        rowIs(-2, 0, 2 + (1L << 62));
        // not as many: told ahead of what is wrong with the numbers
        rowIs(-7);
        rowIs(-7, 0);
        rowIs(-7, 99);
        rowIs(-7, 0, 2, 4);
        rowIs(-7, 0, 0, 0);
        rowIs(-7, 5, 12, -1);
        told(SQUARE);
        rowIs(-7, 0);
        rowIs(0);
        fresh();
        all(-2, "nights(0)", "nights(4)");
        fill(0, 0);
        due("nights(0)", -2);
    }

    private void rowIs(int want, long... sides) {
        fill(1, 3, sides);
        check.due("nights(1) to " + java.util.Arrays.toString(sides), x.nights(1), want);
    }

    private void out() {
        promise(23);
        says("OUT (IV): the DAY (0 the first) on which one can first be at a GATE, if he goes n steps (1 .. 99)"
            + " a DAY at most and a SLOT's row (as nth()) is what NIGHTS there are; NONE: by none of these DAYS.");
        told(RING);
        fill(0, 0);
        due("out(0, 2, 1)", 0);
        due("out(0, 1, 1)", 0);
        due("out(0, 0, 3)", NONE);
        due("out(0, 0, 4)", 0);
        due("out(0, 0, 99)", 0);
        fill(1, 0, 1);
        due("out(1, 0, 1)", NONE);
        due("out(1, 0, 2)", 1);
        // night 104 ahead of 401: a row of two has the days 0, 1, 2
        fill(2, 1, 1, 104, 401);
        due("out(2, 0, 1)", 2);
        fill(2, 1, 1, 104);
        due("out(2, 0, 1)", 2);
        fill(2, 1, 1);
        due("out(2, 0, 1)", NONE);
        // sixty nights, and no gate
        told(HANDLES);
        long[] sixty = new long[60];
        for (int i = 0; i < 60; i++) {
            sixty[i] = i % 2 == 0 ? 5 : 500;
        }
        fill(0, 1, sixty);
        due("out(0, 0, 99)", NONE);
        told(HANDLES + "gate at 2 1;");
        fill(0, 2, sixty);
        due("out(0, 5, 1)", 0);
        // he can be at 0, 3; by the next night side 0 is open, 5 shut: at 1, too; then at 4; then out
        due("out(0, 0, 1)", 3);
        due("gone(NONE)", 0);
        due("what(0, 2)", 1);
    }

    private void outRefused() {
        says("-2: there are none such; -6: it has nothing; -5: a NIGHT is not lawful then (asked ahead).");
        told(RING);
        all(-6, "out(0, 0, 1)", "out(1, 0, 1)", "out(2, 0, 1)", "out(3, 0, 1)", "out(0, 5, 99)");
        all(-2, "out(4, 0, 1)", "out(-1, 0, 1)", "out(0, 6, 1)", "out(0, -1, 1)", "out(0, 0, 0)",
            "out(0, 0, 100)", "out(0, 0, -1)", "out(MAX, 0, 1)", "out(0, MAX, 1)", "out(0, 0, MAX)",
            "out(MIN, 0, 1)", "out(0, MIN, 1)", "out(0, 0, MIN)");
        // at the gate he would be out at once, but for a night that is not lawful
        long[] wrong = {0, 3, 7, 99, 100, 101, 301, 700, -1, -100, 1L << 32, Long.MAX_VALUE, Long.MIN_VALUE,
            4 + (1L << 32), 9999, 100000};
        for (long night : wrong) {
            fill(0, 3, night);
            due("out(0, 2, 1)", -5);
            all(-2, "out(0, 6, 1)", "out(0, 2, 0)", "out(0, 2, 100)");
        }
        // lawful at first, not so behind another; and the other way about
        fill(0, 1, 4, 4);
        due("out(0, 2, 1)", -5);
        fill(0, 1, 4, 401);
        due("out(0, 2, 1)", 0);
        fill(0, 1, 401);
        due("out(0, 2, 1)", -5);
        fill(0, 1, 4, 400, 4, 400, 4, 406, 603);
        due("out(0, 2, 1)", -5);
        told(HANDLES + "law near;gate at 0 0;");
        fill(0, 1, 5);
        due("out(0, 0, 1)", -5);
        fill(0, 1, 2);
        due("out(0, 0, 1)", -5);
        fill(0, 1, 1, 105);
        due("out(0, 0, 1)", 0);
        fresh();
        all(-2, "out(0, 0, 1)", "out(4, 0, 1)");
    }

    private void held() {
        promise(24);
        says("HELD (IV): whether he can be held for d (1 .. 3) DAYS from a CELL, n steps a DAY: 1, 0.");
        told(RING);
        each("held(#, 1, 1)", 1, 0, 0, 1, 1, 0);
        each("held(#, 1, 2)", 1, 0, 0, 1, 1, 0);
        // from 4 he goes to 5 and stays: the hedge that comes to side 4 must go from it again
        each("held(#, 1, 3)", 1, 0, 0, 1, 0, 0);
        each("held(#, 2, 2)", 1, 0, 0, 1, 0, 0);
        // at 0 he makes the hedge go from side 0 to 2, at 1 from there
        each("held(#, 2, 3)", 0, 0, 0, 0, 0, 0);
        each("held(#, 3, 1)", 1, 0, 0, 0, 0, 0);
        each("held(#, 3, 2)", 0, 0, 0, 0, 0, 0);
        each("held(#, 4, 1)", 0, 0, 0, 0, 0, 0);
        each("held(#, 99, 3)", 0, 0, 0, 0, 0, 0);
        told(SQUARE);
        each("held(#, 99, 3)", 1, 1, 1, 1);
        each("held(#, 1, 1)", 1, 1, 1, 1);
        told(FIELD + "gate at 0 0;");
        each("held(#, 1, 3)", 0, 0, 0, 0, 0, 0, 0, 0, 1);
        says("-2: there are none such.");
        all(-2, "held(9, 1, 1)", "held(-1, 1, 1)", "held(0, 0, 1)", "held(0, 100, 1)", "held(0, 1, 0)",
            "held(0, 1, 4)", "held(0, -1, 1)", "held(0, 1, -1)", "held(MAX, 1, 1)", "held(0, MAX, 1)",
            "held(0, 1, MAX)", "held(MIN, 1, 1)", "held(0, MIN, 1)", "held(0, 1, MIN)");
        fresh();
        due("held(0, 1, 1)", -2);
        promise(25);
        says("How many CELLS there are from which he is.");
        told(RING);
        each("hold(#, 1)", -2, 3, 2, 1, 0, 0);
        each("hold(#, 2)", -2, 3, 2, 0, 0, 0);
        each("hold(#, 3)", -2, 2, 0, 0, 0, 0);
        due("hold(99, 1)", 0);
        due("hold(99, 3)", 0);
        told(FIELD + "gate at 0 0;");
        each("hold(1, #)", -2, 6, 3, 1, -2);
        each("hold(#, 2)", -2, 3, 0, 0);
        told(GREAT);
        due("hold(99, 3)", 25);
        says("-2 likewise, no MAZE.");
        all(-2, "hold(0, 1)", "hold(100, 1)", "hold(1, 0)", "hold(1, 4)", "hold(-1, 1)", "hold(1, -1)",
            "hold(MAX, 1)", "hold(1, MAX)", "hold(MIN, 1)", "hold(1, MIN)");
        fresh();
        all(-2, "hold(1, 1)", "hold(99, 3)");
    }

    private void worst() {
        promise(26);
        says("The lawful NIGHT (as nth()) behind which a CELL is farthest from a GATE, the first of several;"
            + " NONE: there is none, there is no GATE.");
        told(RING);
        // from 3 all are as far, from 4 the hedge on 4 or 6 makes as much; at the gate nothing does
        each("worst(#)", 2, 2, 1, 1, 4, 4);
        told(RING + "law near;");
        each("worst(#)", 2, 2, 1, 1, 1, 1);
        due("gone(NONE)", 0);
        told(SQUARE + "gate at 0 0;");
        each("worst(#)", NONE, NONE, NONE, NONE, -2);
        told(SQUARE + "hedge at 0 0 east;");
        each("worst(#)", NONE, NONE, NONE, NONE, -2);
        told(SQUARE);
        each("worst(#)", NONE, NONE, NONE, NONE, -2);
        says("-2: there is no such CELL.");
        all(-2, "worst(4)", "worst(-1)", "worst(MAX)", "worst(MIN)");
        fresh();
        due("worst(0)", -2);
    }
}
