import java.util.function.Supplier;

/**
 * What a call refuses, at each bound of each argument, and what it leaves as it was: behind each
 * refused call, and each that only asks, an object answers as one that was never asked.
 */
public final class RefusalTest {
    private static final int NONE = HedgeMaze.NONE;
    private static final String RING = "maze wide 3 long 2;hedge at 0 0 east;wall at 1 0 south;"
        + "gate at 2 0;guest at 0 0;guest at 2 1;letter at 1 1;";
    private static final String GREAT = "maze wide 5 long 5;law near;letter at 2 2;"
        + "hedge at 0 0 east;hedge at 1 0 east;hedge at 2 0 east;hedge at 3 0 east;"
        + "hedge at 0 1 east;hedge at 1 1 east;hedge at 2 1 east;hedge at 3 1 east;"
        + "hedge at 0 2 east;hedge at 1 2 east;hedge at 2 2 east;hedge at 3 2 east;"
        + "wall at 0 3 east;wall at 1 3 east;wall at 2 3 east;wall at 3 3 east;"
        + "gate at 0 0;gate at 4 4;gate at 4 0;gate at 0 4;"
        + "guest at 0 0;guest at 4 4;guest at 1 1;guest at 2 2;guest at 3 3;";

    private final Checker check = new Checker();
    private Supplier<HedgeMaze> state = HedgeMaze::new;
    private String untouched = "";

    public static void main(String[] args) {
        RefusalTest test = new RefusalTest();
        test.nothingThere();
        test.inTheMidst();
        test.allFull();
        test.boundsOfMaze();
        test.boundsOfNights();
        test.boundsOfGuests();
        test.boundsOfRows();
        test.check.finish("RefusalTest");
    }

    // ---- states, and what can be seen of them ----

    private void state(String name, Supplier<HedgeMaze> made) {
        check.about(name);
        state = made;
        untouched = pictureOf(made.get());
        check.due("the same state twice", pictureOf(made.get()).compareTo(untouched), 0);
    }

    /** A maze with a night gone, guests, rows in all slots but one, an image, a tape with a fault. */
    private static HedgeMaze midst() {
        HedgeMaze x = new HedgeMaze();
        x.keep(2);
        Checker.lay(x, RING);
        x.maze();
        x.keep(1);
        x.night(0, 4);
        x.goes(0, 3);
        Checker.fill(x, 0, 0, 1, 1, 7, 2);
        Checker.fill(x, 1, 1, 401, 104);
        Checker.fill(x, 2, 0, 6);
        Checker.lay(x, "maze wide 2 long 2;law near;?gate at 0 0;");
        x.maze();
        return x;
    }

    /** All that has a bound is at it: nights, the tape, rows, images, lines of each kind. */
    private static HedgeMaze full() {
        HedgeMaze x = Checker.told(GREAT);
        for (int i = 0; i < 99; i++) {
            x.night(i % 2 == 0 ? 0 : 1, i % 2 == 0 ? 1 : 0);
            if (i % 40 == 0) {
                x.keep(i / 40);
            }
        }
        for (int slot = 0; slot < 4; slot++) {
            x.row(slot, slot, 60);
            x.write(slot, 0, 2);
            x.write(slot, 59, 6);
        }
        Checker.lay(x, "maze wide 2 long 2;" + " ".repeat(1580) + "?");
        x.maze();
        return x;
    }

    /** Small, and fit for all questions: each slot has the row of the one number 1. */
    private static HedgeMaze fit() {
        HedgeMaze x = Checker.told(RING);
        x.keep(0);
        x.night(0, 1);
        x.keep(1);
        x.night(1, 0);
        x.keep(2);
        for (int slot = 0; slot < 4; slot++) {
            Checker.fill(x, slot, 1, 1);
        }
        Checker.lay(x, "maze wide 2 long 2;law");
        x.maze();
        return x;
    }

    /** Answers that tell all of an object's state; in the end it is not as it was. */
    private static String pictureOf(HedgeMaze x) {
        StringBuilder seen = new StringBuilder();
        see(seen, x.fault(0), x.fault(1), x.count(7), x.count(10));
        seeMaze(seen, x);
        int sides = x.sides();
        for (int side = 0; side < sides; side++) {
            see(seen, x.what(side, 2));
        }
        seeRows(seen, x);
        see(seen, x.maze(), x.fault(0), x.fault(1), x.count(0), x.count(6), x.count(7));
        for (int image = 0; image < 3; image++) {
            see(seen, x.back(image));
            seeMaze(seen, x);
        }
        return seen.toString();
    }

    private static void see(StringBuilder seen, int... answers) {
        for (int answer : answers) {
            seen.append(answer).append(' ');
        }
    }

    private static void seeMaze(StringBuilder seen, HedgeMaze x) {
        for (int what : new int[] {0, 1, 2, 3, 4, 5, 6, 8, 9}) {
            see(seen, x.count(what));
        }
        int gone = x.gone(NONE);
        see(seen, gone, x.gone(0), x.gone(gone - 1), x.nth(0), x.gate(1));
        for (int guest = 0; guest < 5; guest++) {
            see(seen, x.guest(guest));
        }
    }

    private static void seeRows(StringBuilder seen, HedgeMaze x) {
        for (int slot = 0; slot < 4; slot++) {
            for (int place : new int[] {0, 1, 2, 4, 59, 60}) {
                see(seen, x.paste(slot, place, slot, place, 1));
            }
            for (int other = 0; other < slot; other++) {
                see(seen, x.paste(slot, 0, other, 0, 0));
            }
            for (int cell = 0; cell < 6; cell += 3) {
                see(seen, x.walk(slot, cell), x.ends(slot, cell), x.out(slot, cell, 1));
            }
            see(seen, x.nights(slot));
        }
    }

    // ---- one call on a new object of the state ----

    private void staysBehind(String call, int want) {
        HedgeMaze x = state.get();
        check.due(call, Calls.ask(x, call), want);
        check.holds(call + " leaves all as it was", pictureOf(x).equals(untouched));
    }

    private void refused(int want, String... calls) {
        for (String call : calls) {
            staysBehind(call, want);
        }
    }

    /** Calls that ask for something that is there. */
    private void asks(String... calls) {
        for (String call : calls) {
            HedgeMaze x = state.get();
            int answer = Calls.ask(x, call);
            check.holds(call + " has an answer, not " + answer, answer >= NONE);
            check.holds(call + " leaves all as it was", pictureOf(x).equals(untouched));
        }
    }

    /** An argument, the sign # in a call, from the least to the greatest; what is due beyond them. */
    private void bound(String call, int least, int greatest, int below, int above) {
        int worst = below == NONE || above == NONE ? 0 : NONE;
        for (long inside : new long[] {least, greatest}) {
            String written = call.replace("#", Long.toString(inside));
            int answer = Calls.ask(state.get(), written);
            check.holds(written + " has an answer, not " + answer, answer >= worst);
        }
        for (long outside : new long[] {least - 1L, Integer.MIN_VALUE}) {
            staysBehind(call.replace("#", Long.toString(outside)), below);
        }
        for (long outside : new long[] {greatest + 1L, Integer.MAX_VALUE}) {
            staysBehind(call.replace("#", Long.toString(outside)), above);
        }
    }

    private void bound(String call, int least, int greatest, int beyond) {
        bound(call, least, greatest, beyond, beyond);
    }

    // ---- nothing, the midst, full ----

    private void nothingThere() {
        state("a new object", HedgeMaze::new);
        refused(-2, "sides()", "side(0, 1)", "what(0, 2)", "far(0, 0)", "way(0, 0, 0)", "gate(0)",
            "within(0, 0)", "shape(0)", "bridge(NONE)", "lawful(0, 1)", "many()", "nth(0)", "night(0, 1)",
            "dawn()", "gone(NONE)", "may(0, 1)", "nights(0)", "out(0, 0, 1)", "held(0, 1, 1)", "hold(1, 1)",
            "worst(0)", "meet(0)", "tea(0)", "served(0, 0)", "letter(0)", "goes(0, 0)", "walk(0, 0)",
            "ends(0, 0)", "odd(0, 0, 1, 0, 0)", "openings(NONE)", "drawn(0, 0, 0)", "lastly(0, 0)",
            "keep(3)", "keep(-1)", "back(3)", "back(-1)", "row(4, 0, 0)", "row(0, 4, 0)", "row(0, 0, 61)",
            "write(4, 0, 0)", "paste(4, 0, 0, 0, 0)", "paste(0, 0, 4, 0, 0)");
        refused(-6, "back(0)", "back(1)", "back(2)", "write(0, 0, 0)", "write(3, 0, 0)",
            "paste(0, 0, 1, 0, 0)", "paste(3, 0, 3, 0, 0)");
        refused(-3, "row(0, 0, -1)", "row(3, 3, MIN)");
        refused(NONE, "end(1)", "end(-1)", "fault(1)", "fault(2)", "guest(0)", "count(9)", "count(11)");
        refused(0, "end(0)", "fault(0)", "count(0)", "maze()");
    }

    private void inTheMidst() {
        state("in the midst", RefusalTest::midst);
        // 41 bytes are on the tape, with a fault at 28
        refused(-4, "maze()");
        refused(28, "fault(1)");
        refused(41, "end(41)", "count(7)");
        refused(NONE, "end(42)", "end(-1)", "end(MAX)", "end(MIN)");
        refused(1, "night(0, 1)", "night(3, 1)", "night(0, 0)");
        refused(2, "night(4, 3)", "night(4, 4)");
        refused(-2, "night(4, 7)", "night(7, 4)", "night(-1, 0)", "goes(2, 0)", "goes(0, 6)", "goes(-1, 0)",
            "goes(0, -1)", "keep(3)", "keep(-1)", "back(3)", "back(-1)", "row(4, 0, 1)", "row(0, 4, 1)",
            "row(0, -1, 1)", "row(0, 0, 61)", "write(4, 0, 1)", "write(-1, 0, 1)", "paste(0, 0, 4, 0, 1)",
            "paste(4, 0, 0, 0, 1)", "walk(1, 0)", "ends(1, 0)", "odd(1, 0, 0, 0, 0)", "odd(0, 0, 1, 0, 0)");
        refused(-3, "row(0, 0, -1)", "row(1, 3, MIN)", "row(3, 0, -1)");
        refused(-6, "back(0)", "write(3, 0, 1)", "paste(3, 0, 0, 0, 1)", "paste(0, 0, 3, 0, 1)", "nights(3)",
            "out(3, 0, 1)", "walk(3, 0)", "ends(3, 0)", "odd(3, 0, 0, 0, 0)", "odd(0, 0, 3, 0, 0)");
        refused(-7, "write(0, 4, 1)", "write(0, -1, 1)", "paste(0, 0, 2, 0, 2)", "paste(0, 3, 2, 0, 2)",
            "paste(0, 0, 0, 1, 4)", "paste(0, -1, 2, 0, 1)", "paste(0, 0, 2, 0, -1)", "nights(0)", "nights(1)");
        refused(-8, "paste(0, 0, 1, 0, 1)", "paste(1, 0, 2, 0, 1)");
        refused(-5, "out(0, 0, 1)", "out(2, 0, 1)");
        asks("sides()", "side(0, 1)", "what(0, 2)", "far(0, 5)", "way(0, 5, 2)", "gate(0)", "within(0, 2)",
            "shape(2)", "bridge(0)", "lawful(4, 0)", "many()", "nth(4)", "gone(0)", "may(0, 2)", "nights(2)",
            "out(1, 0, 1)", "held(0, 1, 3)", "hold(1, 3)", "worst(0)", "guest(1)", "meet(2)", "tea(0)",
            "served(0, 1)", "letter(0)", "walk(0, 0)", "ends(0, 0)", "odd(0, 0, 0, 1, 1)", "openings(0)",
            "drawn(7, 40, 0)", "lastly(7, 40)", "count(7)", "fault(0)", "fault(2)", "count(11)");
    }

    private void allFull() {
        state("all full", RefusalTest::full);
        refused(NONE, "feed(0, 0, 0, 0, 0)", "feed(-1, -1, -1, -1, -1)", "end(1601)", "end(-1)");
        refused(1600, "end(1600)", "count(7)");
        refused(-4, "maze()");
        // the hedge of side 0 is on side 1 now
        refused(-3, "night(1, 0)", "night(2, 3)");
        refused(1, "night(0, 1)");
        refused(2, "night(1, 2)", "night(1, 27)", "night(1, 29)");
        refused(3, "night(1, 36)", "night(1, 39)");
        refused(99, "gone(NONE)");
        refused(NONE, "gone(99)", "guest(5)");
        refused(-2, "row(0, 0, 61)", "row(3, 3, MAX)", "goes(5, 0)", "goes(0, 25)", "night(40, 0)", "night(0, 40)");
        refused(-3, "row(0, 0, -1)");
        refused(-7, "write(0, 60, 1)", "write(3, -1, 1)", "paste(0, 0, 0, 1, 60)", "paste(0, 0, 0, 0, 61)",
            "paste(0, 60, 0, 0, 1)", "paste(0, 1, 0, 0, 60)", "paste(0, MAX, 0, 0, 60)", "nights(0)");
        refused(-8, "paste(0, 0, 1, 0, 60)", "paste(3, 0, 2, 0, 0)");
        asks("many()", "nth(0)", "may(0, 2)", "held(12, 1, 3)", "hold(1, 2)", "worst(12)", "meet(0)", "tea(12)",
            "served(12, 4)", "letter(0)", "openings(NONE)", "drawn(2000000000, 40, 12)", "lastly(2000000000, 40)",
            "shape(2)", "bridge(NONE)", "walk(0, 0)", "ends(3, 0)", "odd(0, 0, 1, 0, 0)");
    }

    // ---- bounds of each argument ----

    private void boundsOfMaze() {
        state("fit for all", RefusalTest::fit);
        bound("end(#)", 0, 22, NONE);
        bound("fault(#)", 0, 1, NONE);
        bound("side(#, 1)", 0, 5, -2);
        bound("side(1, #)", 0, 3, -2);
        bound("what(#, 2)", 0, 6, -2);
        bound("what(1, #)", 0, 2, -2);
        bound("far(#, 1)", 0, 5, -2);
        bound("far(1, #)", 0, 5, -2);
        bound("way(#, 1, 0)", 0, 5, -2);
        bound("way(1, #, 0)", 0, 5, -2);
        bound("way(0, 1, #)", 0, 5, NONE);
        bound("gate(#)", 0, 5, -2);
        bound("within(#, 1)", 0, 5, -2);
        bound("within(1, #)", 0, 99, -2);
        bound("shape(#)", 0, 3, -2);
        bound("bridge(#)", -1, 4, -2, NONE);
        bound("count(#)", 0, 10, NONE);
        bound("keep(#)", 0, 2, -2);
        bound("back(#)", 0, 2, -2);
    }

    private void boundsOfNights() {
        bound("lawful(#, 1)", 0, 6, -2);
        bound("lawful(0, #)", 0, 6, -2);
        bound("nth(#)", 0, 4, NONE);
        bound("night(#, 1)", 0, 6, -2);
        bound("night(0, #)", 0, 6, -2);
        bound("gone(#)", -1, 1, -2, NONE);
        bound("may(#, 1)", 0, 6, -2);
        bound("may(1, #)", 1, 2, -2);
        bound("nights(#)", 0, 3, -2);
        bound("out(#, 0, 1)", 0, 3, -2);
        bound("out(0, #, 1)", 0, 5, -2);
        bound("out(0, 0, #)", 1, 99, -2);
        bound("held(#, 1, 1)", 0, 5, -2);
        bound("held(0, #, 1)", 1, 99, -2);
        bound("held(0, 1, #)", 1, 3, -2);
        bound("hold(#, 1)", 1, 99, -2);
        bound("hold(1, #)", 1, 3, -2);
        bound("worst(#)", 0, 5, -2);
        bound("openings(#)", -1, 0, -2, NONE);
        bound("drawn(#, 1, 0)", 0, 2000000000, -2);
        bound("drawn(0, #, 0)", 0, 40, -2);
        bound("drawn(0, 1, #)", 0, 5, -2);
        bound("lastly(#, 1)", 0, 2000000000, -2);
        bound("lastly(0, #)", 0, 40, -2);
    }

    private void boundsOfGuests() {
        bound("guest(#)", 0, 1, NONE);
        bound("meet(#)", 0, 2, -2);
        bound("tea(#)", 0, 5, -2);
        bound("served(#, 0)", 0, 5, -2);
        bound("served(0, #)", 0, 1, NONE);
        bound("letter(#)", 0, 1, -2);
        bound("goes(#, 1)", 0, 1, -2);
        bound("goes(0, #)", 0, 5, -2);
    }

    private void boundsOfRows() {
        bound("walk(#, 0)", 0, 3, -2);
        bound("walk(0, #)", 0, 5, -2);
        bound("ends(#, 0)", 0, 3, -2);
        bound("ends(0, #)", 0, 5, -2);
        bound("odd(#, 0, 0, 0, 0)", 0, 3, -2);
        bound("odd(0, #, 0, 0, 0)", 0, 5, -2);
        bound("odd(0, 0, #, 0, 0)", 0, 3, -2);
        bound("odd(0, 0, 0, #, 0)", 0, 5, -2);
        bound("odd(0, 0, 0, 0, #)", 0, 1, -2);
        bound("row(#, 0, 1)", 0, 3, -2);
        bound("row(0, #, 1)", 0, 3, -2);
        bound("row(0, 0, #)", 0, 60, -3, -2);
        bound("write(#, 0, 1)", 0, 3, -2);
        bound("write(0, #, 1)", 0, 0, -7);
        bound("paste(#, 0, 0, 0, 1)", 0, 3, -2);
        bound("paste(0, #, 0, 0, 1)", 0, 0, -7);
        bound("paste(0, 0, #, 0, 1)", 0, 3, -2);
        bound("paste(0, 0, 0, #, 1)", 0, 0, -7);
        bound("paste(0, 0, 0, 0, #)", 0, 1, -7);
        // an argument that is least or greatest in all its places at once
        refused(-2, "odd(MAX, MAX, MAX, MAX, MAX)", "odd(MIN, MIN, MIN, MIN, MIN)", "row(MIN, MIN, MIN)",
            "row(MAX, MAX, MAX)", "write(MIN, MIN, MIN)", "write(MAX, MAX, MAX)", "paste(MIN, MIN, MIN, MIN, MIN)",
            "paste(MAX, MAX, MAX, MAX, MAX)", "out(MAX, MAX, MAX)", "way(MIN, MIN, MIN)", "drawn(MAX, MAX, MAX)");
        refused(-7, "paste(0, MAX, 0, MAX, MAX)", "paste(0, MIN, 0, MIN, MIN)", "paste(0, MIN, 0, MIN, MAX)");
    }
}
