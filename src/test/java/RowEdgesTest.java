import java.util.Arrays;

/** Promises 36 to 44, sentence by sentence: openings, draws, counts, images, rows. */
public final class RowEdgesTest extends Sentences {
    /** Cells 0 3 4 5 2 1 in a ring that the hedge on side 0 shuts; a wall in it, on side 3. */
    private static final String RING = "maze wide 3 long 2;hedge at 0 0 east;wall at 1 0 south;"
        + "gate at 2 0;guest at 0 0;guest at 2 1;letter at 1 1;";
    private static final String SQUARE = "maze wide 2 long 2;";
    private static final String FIELD = "maze wide 3 long 3;";
    private static final String GREAT = "maze wide 5 long 5;";

    public static void main(String[] args) {
        RowEdgesTest test = new RowEdgesTest();
        test.openings();
        test.drawn();
        test.lastly();
        test.count();
        test.keep();
        test.back();
        test.row();
        test.write();
        test.paste();
        test.pasteRefused();
        test.finishPromises(36, 44);
    }

    private void openings() {
        promise(36);
        says("OPENINGS: the fewest HEDGES without which there is no BRIDGE (what NONE), the i-th of the first"
            + " such row (what i).");
        told(SQUARE);
        due("openings(NONE)", 0);
        due("openings(0)", NONE);
        told(FIELD + "hedge at 1 1 east;");
        due("openings(NONE)", 0);
        due("openings(0)", NONE);
        told(RING);
        due("openings(NONE)", 1);
        each("openings(#)", 0, NONE);
        // each corner has one way in, and one hedge that would give it another
        told(GREAT + "hedge at 0 4 east;hedge at 3 0 east;");
        due("openings(NONE)", 2);
        each("openings(#)", 6, 36, NONE);
        told(GREAT + "hedge at 0 4 east;hedge at 3 0 east;hedge at 0 0 south;");
        due("openings(NONE)", 3);
        each("openings(#)", 1, 6, 36, NONE);
        // three hedges side by side: the last alone makes a ring of all; of two that do, the first
        told("maze wide 4 long 2;hedge at 1 0 south;hedge at 2 0 south;hedge at 3 0 south;");
        due("openings(NONE)", 1);
        each("openings(#)", 6, NONE);
        told(SQUARE + "hedge at 0 0 south;");
        each("openings(#)", 1, NONE);
        // two rings that are shut by sides of which one is numbered behind the other
        told("maze wide 3 long 2;hedge at 2 0 south;hedge at 0 1 east;");
        due("openings(NONE)", 2);
        each("openings(#)", 4, 5, NONE);
        says("NONE: three do not, there are not so many; -2: what is less, there is no MAZE.");
        told(GREAT + "hedge at 0 4 east;hedge at 3 0 east;hedge at 0 0 south;hedge at 3 4 east;");
        due("openings(NONE)", NONE);
        each("openings(#)", NONE, NONE, NONE, NONE);
        // no hedge helps: the bridge is between walls
        told(SQUARE + "wall at 0 0 east;");
        due("openings(NONE)", NONE);
        due("openings(0)", NONE);
        told(RING);
        all(NONE, "openings(1)", "openings(2)", "openings(3)", "openings(MAX)");
        all(-2, "openings(-2)", "openings(-3)", "openings(MIN)");
        fresh();
        all(-2, "openings(NONE)", "openings(0)", "openings(-2)");
    }

    private void drawn() {
        promise(37);
        says("n (0 .. 40) lawful NIGHTS drawn from a seed (0 .. 2,000,000,000) (VI, in thought): how far a"
            + " CELL is from a GATE then; NONE: there is none.");
        told(RING);
        each("drawn(0, #, 0)", 4, 2, 2, 2, 4);
        each("drawn(0, #, 5)", 1, 1, 1, 5, 1);
        due("drawn(0, 0, 2)", 0);
        due("drawn(0, 40, 2)", 0);
        due("drawn(2000000000, 40, 2)", 0);
        due("drawn(2000000000, 0, 0)", 4);
        due("drawn(2000000000, 1, 5)", 1);
        each("what(#, 2)", 1, 0, 0, 2, 0, 0, 0);
        due("gone(NONE)", 0);
        told(RING.replace("gate at 2 0;", ""));
        due("drawn(0, 0, 0)", NONE);
        due("drawn(0, 40, 0)", NONE);
        told(SQUARE + "gate at 0 0;");
        due("drawn(2000000000, 40, 3)", 2);
        says("-2: there are none such.");
        all(-2, "drawn(-1, 1, 0)", "drawn(2000000001, 1, 0)", "drawn(0, -1, 0)", "drawn(0, 41, 0)",
            "drawn(0, 1, 4)", "drawn(0, 1, -1)", "drawn(MAX, 1, 0)", "drawn(MIN, 1, 0)", "drawn(0, MAX, 0)",
            "drawn(0, MIN, 0)", "drawn(0, 1, MAX)", "drawn(0, 1, MIN)");
        fresh();
        due("drawn(0, 0, 0)", -2);
    }

    private void lastly() {
        promise(38);
        says("The last of these NIGHTS, as nth(); NONE: there is none.");
        told(RING);
        each("lastly(0, #)", NONE, 1, 105, 504, 402);
        due("lastly(2000000000, 0)", NONE);
        due("lastly(2000000000, 1)", 6);
        due("lastly(2000000000, 2)", 604);
        check.holds("lastly(2000000000, 40) is a night", x.lastly(2000000000, 40) >= 0);
        told(SQUARE);
        due("lastly(0, 1)", NONE);
        due("lastly(2000000000, 40)", NONE);
        says("-2 likewise.");
        all(-2, "lastly(-1, 1)", "lastly(2000000001, 1)", "lastly(0, -1)", "lastly(0, 41)", "lastly(MAX, 1)",
            "lastly(MIN, 1)", "lastly(0, MAX)", "lastly(0, MIN)");
        fresh();
        all(-2, "lastly(0, 0)", "lastly(0, 1)");
    }

    private void count() {
        promise(39);
        says("0 wide, 1 long, 2 HEDGES, 3 walls, 4 GATES, 5 GUESTS, 6 LINES, 7 bytes of the TAPE, 8 LAW (0"
            + " far, 1 near), 9 the letter's CELL (NONE without), 10 SLOTS that have a row.");
        fresh();
        each("count(#)", 0, 0, 0, 0, 0, 0, 0, 0, 0, NONE, 0);
        told("maze wide 4 long 3;hedge at 0 0 east;hedge at 1 0 east;wall at 0 1 east;wall at 1 1 east;"
            + "wall at 2 2 east;gate at 0 0;guest at 0 0;guest at 0 0;guest at 1 0;guest at 2 0;"
            + "letter at 3 1;law near;");
        each("count(#)", 4, 3, 2, 3, 1, 4, 13, 0, 1, 7, 0);
        Checker.lay(x, " ".repeat(1600));
        due("count(7)", 1600);
        for (int slot = 3; slot >= 0; slot--) {
            due("row(" + slot + ", 0, 0)", 0);
            due("count(10)", 4 - slot);
        }
        due("row(2, 3, 60)", 0);
        due("count(10)", 4);
        // what moves is counted as before
        due("night(0, 1)", 0);
        due("count(2)", 2);
        due("goes(0, 11)", 0);
        due("count(5)", 4);
        told(SQUARE + "letter at 0 0;law far;");
        each("count(#)", 2, 2, 0, 0, 0, 0, 3, 0, 0, 0, 0);
        says("NONE for others.");
        all(NONE, "count(11)", "count(-1)", "count(12)", "count(MAX)", "count(MIN)");
        fresh();
        all(NONE, "count(11)", "count(-1)", "count(MAX)", "count(MIN)");
    }

    private void keep() {
        promise(40);
        says("IMAGE k (0 .. 2) keeps the MAZE, NIGHTS that are gone, GUESTS: 0.");
        told(RING);
        for (int i = 0; i < 99; i++) {
            due(i % 2 == 0 ? "night(0, 4)" : "night(4, 0)", 0);
        }
        due("keep(0)", 0);
        due("dawn()", 1);
        due("goes(1, 2)", 5);
        due("keep(1)", 0);
        due("goes(1, 3)", 2);
        due("keep(2)", 0);
        Checker.lay(x, SQUARE);
        due("maze()", 1);
        // what happens behind keep() does not come into an image
        due("back(0)", 0);
        each("what(#, 2)", 0, 0, 0, 2, 1, 0, 0);
        due("gone(NONE)", 99);
        due("gone(98)", 4);
        due("night(4, 0)", -3);
        due("guest(1)", 5);
        due("back(1)", 0);
        each("what(#, 2)", 1, 0, 0, 2, 0, 0, 0);
        due("gone(NONE)", 98);
        due("guest(1)", 2);
        due("back(2)", 0);
        due("guest(1)", 3);
        // in place of what the image had
        due("keep(0)", 0);
        due("goes(1, 4)", 3);
        due("back(0)", 0);
        due("gone(NONE)", 98);
        due("guest(1)", 3);
        says("-2: no such k.");
        all(-2, "keep(3)", "keep(-1)", "keep(MAX)", "keep(MIN)");
        fresh();
        all(-2, "keep(3)", "keep(-1)");
        each("keep(#)", 0, 0, 0);
    }

    private void back() {
        promise(41);
        says("These are as IMAGE k has them: 0.");
        // no maze is kept, too
        fresh();
        due("keep(2)", 0);
        Checker.lay(x, RING + "law near;");
        due("maze()", 8);
        due("keep(0)", 0);
        due("night(0, 1)", 0);
        Checker.lay(x, "?");
        due("maze()", -4);
        fill(1, 0, 5);
        due("back(2)", 0);
        due("sides()", -2);
        // tape, fault and slots are no part of it
        each("count(#)", 0, 0, 0, 0, 0, 0, 0, 1, 0, NONE, 1);
        each("fault(#)", 1, 0);
        due("guest(0)", NONE);
        due("gone(NONE)", -2);
        due("back(0)", 0);
        each("count(#)", 3, 2, 1, 1, 1, 2, 8, 1, 1, 4, 1);
        each("what(#, 2)", 1, 0, 0, 2, 0, 0, 0);
        each("gate(#)", 4, 1, 0, 3, 2, 1);
        due("lawful(0, 6)", 3);
        due("walk(1, 0)", 1);
        due("gone(NONE)", 0);
        due("dawn()", 0);
        // again and again: the image stays as it is
        due("night(0, 1)", 0);
        due("goes(0, 5)", 0);
        due("back(0)", 0);
        due("gone(NONE)", 0);
        due("guest(0)", 0);
        // an undone night of an image
        due("night(0, 1)", 0);
        due("night(1, 5)", 0);
        due("keep(1)", 0);
        due("back(0)", 0);
        due("night(0, 2)", 0);
        due("night(2, 4)", 0);
        due("night(4, 2)", 0);
        due("back(1)", 0);
        each("gone(#)", 1, 105, NONE);
        due("dawn()", 1);
        each("what(#, 2)", 0, 1, 0, 2, 0, 0, 0);
        says("-2: no such k; -6: it has nothing.");
        all(-2, "back(3)", "back(-1)", "back(MAX)", "back(MIN)");
        each("what(#, 2)", 0, 1, 0, 2, 0, 0, 0);
        told(RING);
        due("night(0, 1)", 0);
        each("back(#)", -6, -6, -6, -2);
        each("what(#, 2)", 0, 1, 0, 2, 0, 0, 0);
        due("keep(1)", 0);
        each("back(#)", -6, 0, -6, -2);
        each("what(#, 2)", 0, 1, 0, 2, 0, 0, 0);
        due("gone(NONE)", 1);
    }

    // ---- rows: their numbers are seen as steps from the middle of a field ----

    /** A field of which slot 2 tells all sides of the middle cell to be open, and to be shut. */
    private void field() {
        told(FIELD);
        fill(2, 0, 4, 5, 6, 7, 0, 2, 1, 3, 2, 0, 3, 1);
    }

    /** Numbers 0 .. 7 of a slot, each by way of slot 3; -2 for all other numbers. */
    private void numbersAre(int slot, int width, int... wants) {
        due("row(3, " + width + ", 1)", 0);
        for (int i = 0; i < wants.length; i++) {
            due("paste(" + slot + ", " + i + ", 3, 0, 1)", 0);
            int side = x.odd(3, 4, 2, 4, 1);
            int way = Arrays.asList(3, 7, 8, 5).indexOf(side);
            int number = side < 0 ? side : x.walk(3, 4) == 1 ? way : way + 4;
            check.due("number " + i + " of slot " + slot, number, wants[i]);
        }
        due("paste(" + slot + ", " + wants.length + ", 3, 0, 1)", -7);
    }

    private void row() {
        promise(42);
        says("A SLOT (0 .. 3) has a row of n numbers of a WIDTH, all 0 (in place of another one): 0.");
        field();
        for (int width = 0; width < 4; width++) {
            due("row(0, " + width + ", 5)", 0);
            numbersAre(0, width, 0, 0, 0, 0, 0);
            due("write(0, 4, 7)", 0);
            numbersAre(0, width, 0, 0, 0, 0, 7);
            // as long, of the same width: all are 0 again; so are those of a longer one
            due("row(0, " + width + ", 5)", 0);
            numbersAre(0, width, 0, 0, 0, 0, 0);
            due("write(0, 4, 7)", 0);
            due("row(0, " + width + ", 2)", 0);
            numbersAre(0, width, 0, 0);
            due("row(0, " + width + ", 6)", 0);
            numbersAre(0, width, 0, 0, 0, 0, 0, 0);
            due("row(0, " + width + ", 0)", 0);
            numbersAre(0, width);
        }
        field();
        due("row(0, 3, 60)", 0);
        numbersAre(0, 3, new int[60]);
        told(FIELD);
        for (int slot = 0; slot < 4; slot++) {
            due("row(" + slot + ", 0, 60)", 0);
            due("write(" + slot + ", 59, 1)", 0);
            due("walk(" + slot + ", 6)", 2);
        }
        says("-2: there is no such SLOT or WIDTH (0 .. 3), or n is above 60; -3, and the SLOT stays: n is below"
            + " 0.");
        field();
        fill(0, 1, 3, 4, 5);
        all(-2, "row(4, 0, 1)", "row(-1, 0, 1)", "row(MAX, 0, 1)", "row(MIN, 0, 1)", "row(0, 4, 1)",
            "row(0, -1, 1)", "row(0, MAX, 1)", "row(0, MIN, 1)", "row(0, 0, 61)", "row(0, 0, MAX)");
        // both: there is none such ahead of below 0
        all(-2, "row(4, 0, -1)", "row(0, 4, -1)", "row(-1, -1, -1)");
        all(-3, "row(0, 0, -1)", "row(0, 3, -60)", "row(0, 1, MIN)", "row(1, 0, -1)");
        numbersAre(0, 1, 3, 4, 5);
        due("write(1, 0, 0)", -6);
        due("count(10)", 3);
    }

    private void write() {
        promise(43);
        says("Number i of the SLOT's row is v, cut to its WIDTH: 0.");
        field();
        due("row(0, 0, 60)", 0);
        due("write(0, 0, 1)", 0);
        due("write(0, 59, 6)", 0);
        due("write(0, 30, 5)", 0);
        int[] wants = new int[60];
        wants[0] = 1;
        wants[30] = 5;
        wants[59] = 6;
        numbersAre(0, 0, wants);
        for (int width = 0; width < 4; width++) {
            cutTo(width, 8 << width);
        }
        // of numbers of one byte: 200 is -56, which is no night
        told("maze wide 3 long 2;wall at 0 0 east;hedge at 1 0 east;gate at 0 0;");
        fill(0, 0, 200);
        fill(1, 1, 200);
        due("out(0, 0, 1)", -5);
        due("out(1, 0, 1)", -5);
        due("lawful(2, 0)", 2);
        told("maze wide 3 long 2;hedge at 1 0 east;gate at 0 0;");
        fill(0, 0, 200);
        fill(1, 1, 200);
        fill(2, 1, 200 + 65536);
        due("out(0, 0, 1)", -5);
        due("out(1, 0, 1)", 0);
        due("out(2, 0, 1)", 0);
        says("-2: there is no such SLOT; -6: it has nothing; -7: there is no such number.");
        field();
        fill(0, 1, 3, 4, 5);
        due("row(3, 0, 0)", 0);
        all(-2, "write(4, 0, 1)", "write(-1, 0, 1)", "write(MAX, 0, 1)", "write(MIN, 99, 1)");
        all(-6, "write(1, 0, 1)", "write(1, -1, 1)", "write(1, 60, 1)");
        all(-7, "write(0, 3, 1)", "write(0, -1, 1)", "write(0, 59, 1)", "write(0, 60, 1)", "write(0, MAX, 1)",
            "write(0, MIN, 1)", "write(3, 0, 1)", "write(3, -1, 1)");
        numbersAre(0, 1, 3, 4, 5);
        due("write(1, 0, 1)", -6);
    }

    /** What is above a width's bits goes, what is in them stays. */
    private void cutTo(int width, int bits) {
        field();
        due("row(0, " + width + ", 1)", 0);
        for (int step = 0; step < 8; step++) {
            if (bits < 64) {
                for (long above : new long[] {1L << bits, -(1L << bits), 3L << bits, 1L << 63}) {
                    check.due("write", x.write(0, 0, step + above), 0);
                    numbersAre(0, width, step);
                }
            }
            for (int bit = 3; bit < bits; bit++) {
                check.due("write", x.write(0, 0, step + (1L << bit)), 0);
                check.due("walk of " + step + " and bit " + bit, x.walk(0, 4), -2);
            }
            field();
            due("row(0, " + width + ", 1)", 0);
        }
        for (String most : new String[] {"MAX", "MIN", "-1"}) {
            due("write(0, 0, " + most + ")", 0);
            due("walk(0, 4)", most.equals("MIN") && bits < 64 ? 1 : -2);
        }
    }

    private void paste() {
        promise(44);
        says("So many numbers of a SLOT's row, from one on, are put to another one's (or its own), from one"
            + " on, as they were: 0.");
        for (int width = 0; width < 4; width++) {
            field();
            fill(0, width, 1, 2, 3, 4, 5);
            fill(1, width, 7, 7, 7, 7);
            due("paste(0, 1, 1, 2, 2)", 0);
            numbersAre(1, width, 7, 7, 2, 3);
            due("paste(0, 0, 1, 0, 4)", 0);
            numbersAre(1, width, 1, 2, 3, 4);
            due("paste(1, 3, 0, 4, 1)", 0);
            numbersAre(0, width, 1, 2, 3, 4, 4);
            // onto itself, upwards and downwards
            fill(0, width, 1, 2, 3, 4, 5);
            due("paste(0, 0, 0, 1, 4)", 0);
            numbersAre(0, width, 1, 1, 2, 3, 4);
            fill(0, width, 1, 2, 3, 4, 5);
            due("paste(0, 1, 0, 0, 4)", 0);
            numbersAre(0, width, 2, 3, 4, 5, 5);
            due("paste(0, 0, 0, 0, 5)", 0);
            numbersAre(0, width, 2, 3, 4, 5, 5);
            // none at all
            due("paste(0, 2, 1, 3, 0)", 0);
            due("paste(0, 5, 1, 4, 0)", 0);
            due("row(1, " + width + ", 0)", 0);
            due("paste(1, 0, 0, 0, 0)", 0);
            due("paste(1, 0, 1, 0, 0)", 0);
            numbersAre(0, width, 2, 3, 4, 5, 5);
        }
        // sixty of them
        told(FIELD);
        long[] sixty = new long[60];
        Arrays.fill(sixty, 1);
        for (int i = 1; i < 60; i += 2) {
            sixty[i] = 3;
        }
        fill(0, 0, sixty);
        due("row(1, 0, 60)", 0);
        due("paste(0, 0, 1, 0, 60)", 0);
        due("walk(1, 4)", 60);
        due("paste(0, 1, 0, 0, 59)", 0);
        due("walk(0, 4)", 59);
        due("paste(1, 0, 0, 59, 1)", 0);
        due("walk(0, 4)", 60);
        due("paste(1, 58, 0, 58, 1)", 0);
        due("walk(0, 4)", 59);
    }

    private void pasteRefused() {
        says("-2: there is no such SLOT; -6: one has nothing; -8: they are not of one WIDTH; -7, and nothing"
            + " happens: some are beyond their rows, or a place or n is below 0.");
        field();
        fill(0, 1, 1, 2, 3, 4, 5);
        fill(1, 1, 7, 7, 7);
        all(-2, "paste(4, 0, 1, 0, 1)", "paste(-1, 0, 1, 0, 1)", "paste(0, 0, 4, 0, 1)", "paste(0, 0, -1, 0, 1)",
            "paste(MAX, 0, 1, 0, 1)", "paste(0, 0, MIN, 0, 1)", "paste(3, 0, 4, 0, 1)", "paste(4, 0, 3, 0, 1)");
        // slot 3 has nothing; slot 2 has another width
        all(-6, "paste(3, 0, 1, 0, 1)", "paste(0, 0, 3, 0, 1)", "paste(3, 0, 3, 0, 0)", "paste(3, 0, 2, 0, 1)",
            "paste(3, -1, 0, 0, -1)");
        all(-8, "paste(2, 0, 1, 0, 1)", "paste(1, 0, 2, 0, 1)", "paste(1, 0, 2, 0, 0)", "paste(1, -1, 2, 99, -1)");
        all(-7, "paste(0, 0, 1, 0, 4)", "paste(0, 0, 1, 1, 3)", "paste(0, 0, 1, 3, 1)", "paste(0, 5, 1, 0, 1)",
            "paste(0, 4, 1, 0, 2)", "paste(0, -1, 1, 0, 1)", "paste(0, 0, 1, -1, 1)", "paste(0, 0, 1, 0, -1)",
            "paste(0, MAX, 1, 0, 1)", "paste(0, 0, 1, MAX, 1)", "paste(0, 0, 1, 0, MAX)", "paste(0, MIN, 1, 0, 1)",
            "paste(0, 0, 1, MIN, 1)", "paste(0, 0, 1, 0, MIN)", "paste(0, MAX, 1, 0, MAX)",
            "paste(0, 1, 1, 1, MAX)", "paste(0, -1, 1, -1, 0)", "paste(0, 0, 0, 1, 5)", "paste(0, 1, 0, 0, 5)",
            "paste(1, 0, 0, 0, 4)", "paste(1, 3, 0, 0, 1)", "paste(0, 6, 1, 0, 0)", "paste(0, 0, 1, 4, 0)",
            "paste(0, MAX, 1, MAX, 0)", "paste(0, 1, 1, 1, -1)");
        numbersAre(0, 1, 1, 2, 3, 4, 5);
        numbersAre(1, 1, 7, 7, 7);
    }
}
