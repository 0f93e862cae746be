/** Promises 27 to 35, sentence by sentence: guests, tea, the letter, and walks that are told. */
public final class GuestEdgesTest extends Sentences {
    /** Cells 0 3 4 5 2 1 in a ring that the hedge on side 0 shuts; a wall in it, on side 3. */
    private static final String RING = "maze wide 3 long 2;hedge at 0 0 east;wall at 1 0 south;"
        + "gate at 2 0;guest at 0 0;guest at 2 1;letter at 1 1;";
    private static final String SQUARE = "maze wide 2 long 2;";
    private static final String FIELD = "maze wide 3 long 3;";
    /** One way through all 25 cells: 0 .. 4, 9 .. 5, 10 .. 14, 19 .. 15, 20 .. 24. */
    private static final String SNAKE = "maze wide 5 long 5;"
        + "wall at 0 0 south;wall at 1 0 south;wall at 2 0 south;wall at 3 0 south;"
        + "wall at 1 1 south;wall at 2 1 south;wall at 3 1 south;wall at 4 1 south;"
        + "wall at 0 2 south;wall at 1 2 south;wall at 2 2 south;wall at 3 2 south;"
        + "hedge at 1 3 south;hedge at 2 3 south;hedge at 3 3 south;hedge at 4 3 south;";

    public static void main(String[] args) {
        GuestEdgesTest test = new GuestEdgesTest();
        test.guest();
        test.meet();
        test.tea();
        test.served();
        test.letter();
        test.goes();
        test.walk();
        test.ends();
        test.odd();
        test.finishPromises(27, 35);
    }

    private void guest() {
        promise(27);
        says("GUEST i's CELL.");
        told(RING);
        each("guest(#)", 0, 5);
        told(SNAKE + "guest at 4 4;guest at 0 0;guest at 4 0;guest at 0 4;guest at 4 4;");
        each("guest(#)", 24, 0, 4, 20, 24);
        says("NONE: there is none such.");
        all(NONE, "guest(5)", "guest(6)", "guest(-1)", "guest(-2)", "guest(MAX)", "guest(MIN)");
        told(RING);
        all(NONE, "guest(2)", "guest(4)", "guest(-1)");
        told(SQUARE);
        due("guest(0)", NONE);
        fresh();
        all(NONE, "guest(0)", "guest(-1)", "guest(4)");
    }

    private void meet() {
        promise(28);
        says("MEET: the CELL to which all GUESTS come by the fewest steps of the one who has most, the least"
            + " of several (what 0), these steps (1), steps of all to it together (2).");
        told(RING);
        each("meet(#)", 3, 2, 3);
        told(SQUARE + "guest at 1 1;");
        each("meet(#)", 3, 0, 0);
        told(SQUARE + "guest at 0 0;");
        each("meet(#)", 0, 0, 0);
        told(SQUARE + "guest at 1 0;".repeat(5));
        each("meet(#)", 1, 0, 0);
        told(SNAKE + "guest at 0 0;guest at 4 4;");
        each("meet(#)", 12, 12, 24);
        told(SNAKE + "guest at 0 0;guest at 4 4;guest at 0 0;guest at 4 4;guest at 0 0;");
        each("meet(#)", 12, 12, 60);
        // 7 and 8 are as good, and 8 comes first on the way of the first guest
        told(SNAKE + "guest at 4 1;guest at 1 1;");
        each("meet(#)", 7, 2, 3);
        told(SQUARE + "guest at 0 0;guest at 1 1;");
        each("meet(#)", 1, 1, 2);
        says("NONE: there are none; -2: there is no such what, no MAZE.");
        all(-2, "meet(3)", "meet(-1)", "meet(MAX)", "meet(MIN)");
        told(SQUARE);
        each("meet(#)", NONE, NONE, NONE, -2);
        due("meet(-1)", -2);
        fresh();
        each("meet(#)", -2, -2, -2, -2);
    }

    private void tea() {
        promise(29);
        says("TEA: the fewest steps of a round from a CELL to all GUESTS and back.");
        told(SQUARE);
        each("tea(#)", 0, 0, 0, 0);
        told(SQUARE + "guest at 1 0;");
        each("tea(#)", 2, 0, 4, 2);
        told(SQUARE + "guest at 1 0;".repeat(5));
        each("tea(#)", 2, 0, 4, 2);
        told(SQUARE + "guest at 0 0;guest at 1 0;guest at 0 1;guest at 1 1;");
        each("tea(#)", 4, 4, 4, 4);
        told(RING);
        each("tea(#)", 6, 10, 8, 6, 6, 6);
        told(SNAKE + "guest at 4 4;guest at 0 0;guest at 2 2;guest at 0 3;guest at 4 0;");
        each("tea(#)", 48, 48, 48, 48, 48);
        due("tea(24)", 48);
        says("-2: there is none such.");
        all(-2, "tea(25)", "tea(-1)", "tea(MAX)", "tea(MIN)");
        fresh();
        due("tea(0)", -2);
    }

    private void served() {
        promise(30);
        says("The i-th GUEST of the first such round (the least row of GUESTS).");
        told(SQUARE + "guest at 1 0;");
        each("served(0, #)", 0, NONE);
        told(SQUARE + "guest at 1 0;".repeat(5));
        each("served(3, #)", 0, 1, 2, 3, 4, NONE);
        told(RING);
        each("served(1, #)", 0, 1, NONE);
        told("maze wide 5 long 2;guest at 3 0;guest at 1 0;guest at 2 0;");
        each("served(0, #)", 0, 2, 1, NONE);
        // round the square: 3 is between 1 and 2, as they are told
        told(SQUARE + "guest at 1 1;guest at 1 0;guest at 0 1;");
        each("served(0, #)", 1, 0, 2, NONE);
        each("served(3, #)", 0, 1, 2, NONE);
        // to the farthest at once, and to all others on the way back
        told(SNAKE + "guest at 4 4;guest at 0 0;guest at 2 2;guest at 0 3;guest at 4 0;");
        each("served(0, #)", 0, 3, 2, 4, 1, NONE);
        says("NONE: there are not so many; -2 likewise.");
        all(NONE, "served(0, 5)", "served(0, 6)", "served(0, -1)", "served(0, MAX)", "served(0, MIN)");
        all(-2, "served(25, 0)", "served(-1, 0)", "served(MAX, 9)", "served(MIN, -1)");
        told(SQUARE);
        due("served(0, 0)", NONE);
        due("served(4, 0)", -2);
        fresh();
        due("served(0, 0)", -2);
    }

    private void letter() {
        promise(31);
        says("Who finds the letter (what 0: the GUEST, 1: behind how many steps), if all go their FIRST WAYS"
            + " to the CELL of the first GATE (of one step the least GUEST).");
        told(RING);
        each("letter(#)", 0, 2);
        // at the letter already; at one step; the last cell of the way
        told(RING + "guest at 1 1;");
        each("letter(#)", 2, 0);
        told(RING + "guest at 0 1;guest at 0 1;");
        each("letter(#)", 2, 1);
        told(SNAKE + "gate at 4 4;guest at 0 0;letter at 4 4;");
        each("letter(#)", 0, 24);
        told(SNAKE + "gate at 4 4;guest at 0 0;guest at 1 0;letter at 3 4;");
        each("letter(#)", 1, 22);
        told(SQUARE + "gate at 0 0;guest at 0 0;letter at 0 0;");
        each("letter(#)", 0, 0);
        // the way goes on at the first gate alone, though another is nearer or has a lesser number
        told(FIELD + "gate at 2 2;gate at 0 0;gate at 0 1;guest at 0 1;letter at 1 1;");
        each("letter(#)", 0, 1);
        told(FIELD + "gate at 0 0;gate at 2 2;guest at 0 1;letter at 1 1;");
        each("letter(#)", NONE, NONE);
        says("NONE: nobody, there is no letter, no GATE; -2: there is no such what, no MAZE.");
        told(RING.replace("guest at 0 0;", ""));
        each("letter(#)", NONE, NONE, -2);
        told(RING.replace("guest at 0 0;guest at 2 1;", ""));
        each("letter(#)", NONE, NONE, -2);
        told(RING.replace("letter at 1 1;", ""));
        each("letter(#)", NONE, NONE, -2);
        told(RING.replace("gate at 2 0;", ""));
        each("letter(#)", NONE, NONE, -2);
        all(-2, "letter(-1)", "letter(MAX)", "letter(MIN)");
        fresh();
        each("letter(#)", -2, -2, -2);
    }

    private void goes() {
        promise(32);
        says("A GUEST goes to another CELL: the one where he was.");
        told(SNAKE + "guest at 0 0;guest at 1 0;guest at 2 0;guest at 3 0;guest at 4 0;");
        due("goes(4, 24)", 4);
        due("goes(4, 0)", 24);
        due("goes(0, 24)", 0);
        due("goes(0, 24)", 24);
        each("guest(#)", 24, 1, 2, 3, 0);
        says("-2: there are none such.");
        all(-2, "goes(5, 0)", "goes(-1, 0)", "goes(0, 25)", "goes(0, -1)", "goes(MAX, 0)", "goes(0, MAX)",
            "goes(MIN, 0)", "goes(0, MIN)", "goes(5, 25)");
        each("guest(#)", 24, 1, 2, 3, 0);
        told(SQUARE);
        due("goes(0, 0)", -2);
        fresh();
        due("goes(0, 0)", -2);
    }

    private void walk() {
        promise(33);
        says("A WALK (V), a SLOT's row, from a CELL: how many of its steps ahead of the first that is not so.");
        told(RING);
        fill(0, 0);
        due("walk(0, 0)", 0);
        fill(0, 0, 2, 1, 1, 0, 3);
        due("walk(0, 0)", 5);
        fill(0, 1, 2, 1, 1, 0, 7, 3);
        due("walk(0, 0)", 4);
        fill(0, 2, 1, 2, 2);
        due("walk(0, 0)", 0);
        fill(0, 3, 5, 4, 7, 2, 6, 7, 0, 5, 3);
        due("walk(0, 0)", 8);
        fill(0, 3, sixty(5, 0));
        due("walk(0, 0)", 1);
        fill(0, 3, sixty(2, 0));
        due("walk(0, 0)", 60);
        due("write(0, 59, 2)", 0);
        due("walk(0, 0)", 59);
        says("-2: there are none such, a number is no step (asked last); -6: it has nothing.");
        walkRefused("walk(", 3);
        // a number that is no step is told though the walk ends ahead of it
        fill(0, 3, 1, 8);
        due("walk(0, 0)", -2);
        fill(0, 3, sixty(1, 3));
        due("write(0, 59, -1)", 0);
        due("walk(0, 0)", -2);
    }

    private static long[] sixty(long even, long odd) {
        long[] row = new long[60];
        for (int i = 0; i < 60; i++) {
            row[i] = i % 2 == 0 ? even : odd;
        }
        return row;
    }

    /** What walk() and ends() refuse: slots, cells, a slot that has nothing, numbers. */
    private void walkRefused(String head, int empty) {
        all(-2, head + "4, 0)", head + "-1, 0)", head + "0, 6)", head + "0, -1)", head + "MAX, 0)",
            head + "MIN, 0)", head + "0, MAX)", head + "0, MIN)", head + empty + ", 6)");
        due(head + empty + ", 0)", -6);
        for (long wrong : new long[] {8, 9, -1, -8, 128, 256, 1L << 32, 1L << 62, Long.MAX_VALUE, Long.MIN_VALUE}) {
            fill(0, 3, wrong);
            due(head + "0, 0)", -2);
        }
        for (int step = 0; step < 8; step++) {
            fill(0, 3, step);
            check.holds("step " + step + " is one", Calls.ask(x, head + "0, 0)") >= 0);
        }
        HedgeMaze before = x;
        fresh();
        due(head + "0, 0)", -2);
        fill(0, 0);
        due(head + "0, 0)", -2);
        x = before;
    }

    private void ends() {
        promise(34);
        says("Where one is behind these.");
        told(RING);
        fill(0, 0);
        due("ends(0, 0)", 0);
        due("ends(0, 5)", 5);
        fill(0, 0, 2, 1, 1, 0, 3);
        due("ends(0, 0)", 1);
        fill(0, 0, 2, 1, 1, 0, 7, 3);
        due("ends(0, 0)", 2);
        fill(0, 0, 1, 2, 2);
        due("ends(0, 0)", 0);
        // behind a step that is not so nothing counts, be it so or not
        fill(0, 0, 2, 2, 1);
        due("ends(0, 0)", 3);
        fill(0, 0, sixty(2, 0));
        due("ends(0, 0)", 0);
        due("write(0, 59, 2)", 0);
        due("ends(0, 0)", 3);
        says("-2, -6 likewise.");
        walkRefused("ends(", 3);
        fill(0, 3, 1, 8);
        due("ends(0, 0)", -2);
    }

    private void odd() {
        promise(35);
        says("Two WALKS (V) that are told of one DAY: SIDES that are OPEN by the one and not by the other,"
            + " what 0: how many, 1: the first (NONE).");
        told(FIELD);
        fill(0, 0);
        fill(1, 1, 4, 5, 6, 7);
        fill(2, 2, 3, 1, 1, 3, 2);
        each("odd(0, 4, 0, 4, #)", 0, NONE);
        each("odd(0, 4, 1, 4, #)", 0, NONE);
        each("odd(1, 4, 1, 4, #)", 0, NONE);
        // 4 3 4 5 4 7: three of the sides of 4, the first is 3-4
        each("odd(2, 4, 1, 4, #)", 3, 5);
        each("odd(1, 4, 2, 4, #)", 3, 5);
        // from 3 one stays at first: 3 3 4 5 4 7
        each("odd(2, 3, 1, 4, #)", 3, 5);
        each("odd(2, 0, 1, 8, #)", 0, NONE);
        // over and over through sides that are told shut over and over: each counts once
        fill(0, 0, sixty(1, 3));
        fill(1, 0, sixty(5, 5));
        each("odd(0, 0, 1, 0, #)", 1, 0);
        each("odd(1, 0, 0, 0, #)", 1, 0);
        says("-2, -6 likewise (of both, the first asked first).");
        oddRefused();
    }

    private void oddRefused() {
        fresh();
        due("odd(0, 0, 0, 0, 0)", -2);
        told(FIELD);
        fill(0, 0, 0);
        fill(1, 0, 8);
        // slots 2 and 3 have nothing
        all(-2, "odd(4, 0, 0, 0, 0)", "odd(-1, 0, 0, 0, 0)", "odd(0, 9, 0, 0, 0)", "odd(0, -1, 0, 0, 0)",
            "odd(0, 0, 4, 0, 0)", "odd(0, 0, -1, 0, 0)", "odd(0, 0, 0, 9, 0)", "odd(0, 0, 0, -1, 0)",
            "odd(0, 0, 0, 0, 2)", "odd(0, 0, 0, 0, -1)", "odd(1, 0, 0, 0, 0)", "odd(0, 0, 1, 0, 0)",
            "odd(MAX, 0, 0, 0, 0)", "odd(0, MAX, 0, 0, 0)", "odd(0, 0, MAX, 0, 0)", "odd(0, 0, 0, MAX, 0)",
            "odd(0, 0, 0, 0, MAX)", "odd(MIN, 0, 0, 0, 0)", "odd(0, MIN, 0, 0, 0)", "odd(0, 0, MIN, 0, 0)",
            "odd(0, 0, 0, MIN, 0)", "odd(0, 0, 0, 0, MIN)");
        all(-6, "odd(2, 0, 0, 0, 0)", "odd(0, 0, 2, 0, 0)", "odd(2, 0, 3, 0, 1)");
        // all that is wrong with the first is told ahead of what is wrong with the other
        all(-6, "odd(2, 0, 4, 0, 0)", "odd(2, 0, 0, 9, 0)", "odd(2, 0, 1, 0, 0)");
        all(-2, "odd(4, 0, 2, 0, 0)", "odd(0, 9, 2, 0, 0)", "odd(1, 0, 2, 0, 0)", "odd(0, 0, 2, 9, 0)");
        due("odd(0, 0, 0, 0, 0)", 0);
        due("odd(0, 0, 0, 0, 1)", NONE);
    }
}
