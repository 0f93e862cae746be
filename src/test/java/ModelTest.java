import java.lang.reflect.InvocationTargetException;
import java.lang.reflect.Method;
import java.nio.charset.StandardCharsets;
import java.util.ArrayList;
import java.util.Arrays;
import java.util.Collections;
import java.util.HashMap;
import java.util.List;
import java.util.Map;
import java.util.Random;

/** Runs of calls from fixed seeds: the class answers each as the plain model of the document does. */
public final class ModelTest {
    private static final int RUNS = Integer.getInteger("runs", 240);
    private static final int TEXTS = Integer.getInteger("texts", 4000);
    /** What an object is made for. */
    private static final int MOST_CALLS = 512;

    /** Calls with the kinds of their arguments; the letters are those of argument(). */
    private static final String[] CALLS = {
        "fault w", "sides ", "side cw", "what sw", "far cc", "way cci", "gate c", "within cn",
        "shape w", "bridge i", "lawful ss", "many ", "nth i", "gone i", "out lcn", "hold nd",
        "held cnd", "may sd", "nights l", "worst c", "guest i", "meet w", "tea c", "served ci",
        "letter w", "walk lc", "ends lc", "odd lclcw", "openings i", "drawn znc", "lastly zn",
        "count k", "bridge i", "lawful ss", "nth i", "out lcn", "nights l", "worst c", "served ci",
        "walk lc", "ends lc", "odd lclcw", "odd lclcw", "openings i", "drawn zmc", "lastly zm"};
    private static final String[] CHANGES = {
        "night ss", "night ss", "dawn ", "goes ic", "keep p", "back p", "row lpr", "write liv",
        "write liv", "paste lilii", "end r"};

    private static final Map<String, Method> REAL = methods(HedgeMaze.class);
    private static final Map<String, Method> PLAIN = methods(Model.class);

    private final Checker check;
    private final Random random;
    private final HedgeMaze x = new HedgeMaze();
    private final Model m = new Model();
    private int calls = 0;

    private ModelTest(Checker check, long seed) {
        this.check = check;
        this.random = new Random(seed);
    }

    private static Map<String, Method> methods(Class<?> type) {
        Map<String, Method> found = new HashMap<>();
        for (Method method : type.getDeclaredMethods()) {
            if (!java.lang.reflect.Modifier.isPrivate(method.getModifiers())) {
                found.put(method.getName(), method);
            }
        }
        return found;
    }

    public static void main(String[] args) {
        Checker check = new Checker();
        for (int run = 0; run < RUNS; run++) {
            check.about("run " + run);
            new ModelTest(check, run).playRun(run % 2 == 0, run % 16 != 0);
        }
        for (int text = 0; text < TEXTS; text++) {
            check.about("text " + text);
            new ModelTest(check, 1_000_000 + text).readOne();
        }
        check.finish("ModelTest");
    }

    private int below(int n) {
        return random.nextInt(n);
    }

    private void call(String name, long... args) {
        calls++;
        int got = invoke(REAL.get(name), x, args);
        int want = invoke(PLAIN.get(name), m, args);
        check.due(name + Arrays.toString(args), got, want);
    }

    private static int invoke(Method method, Object on, long[] args) {
        Object[] given = new Object[args.length];
        for (int i = 0; i < given.length; i++) {
            boolean isLong = method.getParameterTypes()[i] == long.class;
            given[i] = isLong ? (Object) args[i] : (Object) (int) args[i];
        }
        try {
            return (Integer) method.invoke(on, given);
        } catch (IllegalAccessException | InvocationTargetException broken) {
            throw new IllegalStateException(method.getName() + Arrays.toString(args), broken);
        }
    }

    // ---- texts of mazes ----

    private String blanks() {
        String[] some = {" ", " ", " ", "\n", "  ", " \n "};
        return some[below(some.length)];
    }

    /** A text of a maze, one without a fault unless there are too many tubs. */
    private String text(int maxHedges, int maxWalls, int longest) {
        Model.State s = new Model.State();
        s.wide = 2 + below(longest - 1);
        s.deep = 2 + below(longest - 1);
        s.makeSides();
        List<String> lines = new ArrayList<>();
        addTubs(lines, s, "hedge", Model.HEDGE, below(maxHedges + 1));
        addTubs(lines, s, "wall", Model.WALL, below(maxWalls + 1));
        addCells(lines, "gate", s, below(4));
        addCells(lines, "guest", s, below(6));
        addCells(lines, "letter", s, below(2));
        if (below(3) != 0) {
            lines.add("law " + (below(2) == 0 ? "near" : "far"));
        }
        Collections.shuffle(lines, random);
        StringBuilder text = new StringBuilder("maze wide " + s.wide + " long " + s.deep + ";");
        for (String line : lines) {
            text.append(below(2) == 0 ? "" : blanks()).append(line.replace(" ", blanks())).append(";");
        }
        return text.toString();
    }

    private void addTubs(List<String> lines, Model.State s, String word, int what, int many) {
        int put = 0;
        for (int i = 0; i < 4 * many && put < many; i++) {
            int side = below(s.on.length);
            if (s.on[side] != Model.OPEN) {
                continue;
            }
            s.on[side] = what;
            if (!s.connected(s.on)) {
                s.on[side] = Model.OPEN;
                continue;
            }
            int cell = s.first[side];
            String to = s.other[side] == s.neighbour(cell, 1) ? "east" : "south";
            lines.add(word + " at " + cell % s.wide + " " + cell / s.wide + " " + to);
            put++;
        }
    }

    private void addCells(List<String> lines, String word, Model.State s, int many) {
        List<Integer> taken = new ArrayList<>();
        for (int i = 0; i < many; i++) {
            int cell = below(s.cells());
            if (word.equals("gate") && taken.contains(cell)) {
                continue;
            }
            taken.add(cell);
            lines.add(word + " at " + cell % s.wide + " " + cell / s.wide);
        }
    }

    private static final String[] PIECES = {"maze", "wide", "long", "wall", "hedge", "gate", "guest",
        "letter", "law", "at", "east", "south", "far", "near", "0", "1", "2", "4", "5", "6", "00", "007",
        "99999999999999999999", "4294967296", ";", " ", "\n", "\t", "A", "-", "north", "e",
        "maze wide 2 long 2;", "gate at 0 0;", "letter at 1 1;", "law far;", "guest at 1 0;",
        "wall at 0 0 east;", "hedge at 0 0 south;", "\u00e9", "\u00ff", "\u0000"};

    /** A text with a few pieces put in, cut out or put in place of others. */
    private String spoiled(String text) {
        StringBuilder s = new StringBuilder(text);
        for (int i = below(3); i >= 0; i--) {
            int at = below(s.length() + 1);
            int end = Math.min(s.length(), at + below(3) * below(6));
            s.replace(at, end, below(3) == 0 ? "" : PIECES[below(PIECES.length)]);
        }
        return s.toString();
    }

    private void readOne() {
        String text = text(14, 14, 5);
        lay(below(4) == 0 ? text : spoiled(text));
        readTape();
    }

    private void lay(String text) {
        byte[] bytes = text.getBytes(StandardCharsets.ISO_8859_1);
        int size = bytes.length + m.tape.length;
        for (int start = 0; start < bytes.length; start += 20) {
            int[] f = new int[5];
            for (int i = 0; i < 20; i++) {
                int sign = start + i < bytes.length ? bytes[start + i] & 255 : below(256);
                f[i / 4] = f[i / 4] << 8 | sign;
            }
            call("feed", f[0], f[1], f[2], f[3], f[4]);
        }
        call("end", size);
    }

    private void readTape() {
        call("maze");
        call("fault", 0);
        call("fault", 1);
        for (int what = -1; what <= 11; what++) {
            call("count", what);
        }
    }

    // ---- runs ----

    /** Only small mazes are asked what is dear for the plain model. */
    private void playRun(boolean small, boolean isTold) {
        if (isTold) {
            lay(small ? text(3, 2, 3) : text(12, 12, 5));
            readTape();
        }
        while (calls < 450) {
            int kind = below(30);
            if (kind < 18) {
                callAny(CALLS, small);
            } else if (kind < 25) {
                callAny(CHANGES, small);
            } else if (kind < 29) {
                fillSlot(small);
            } else if (below(2) == 0) {
                aNight();
            } else if (below(2) == 0) {
                lay(below(3) == 0 ? spoiled(text(3, 2, 3)) : small ? text(3, 2, 3) : text(12, 12, 5));
                readTape();
                call("end", 0);
            }
        }
        while (calls < MOST_CALLS) {
            callAny(CALLS, small);
        }
        check.due("calls of one object", calls, MOST_CALLS);
    }

    private void callAny(String[] from, boolean small) {
        String[] parts = from[below(from.length)].split(" ", 2);
        String name = parts[0];
        String kinds = parts[1];
        long[] args = new long[kinds.length()];
        for (int i = 0; i < args.length; i++) {
            args[i] = argument(kinds.charAt(i));
        }
        boolean isDear = name.equals("nights") && m.now.on.length > 0
            || (name.equals("may") || name.equals("held") || name.equals("hold")) && args[args.length - 1] > 1
            || (name.equals("drawn") || name.equals("lastly")) && args[1] > 4;
        if (small || !isDear) {
            call(name, args);
        }
    }

    private long argument(char kind) {
        int cells = Math.max(1, m.now.cells());
        int sides = Math.max(1, m.now.on.length);
        boolean wild = below(14) == 0;
        int[] edges = {Integer.MIN_VALUE, -3, -2, -1, 0, 60, 61, 99, 100, 255, 1600, Integer.MAX_VALUE};
        if (below(60) == 0) {
            return edges[below(edges.length)];
        }
        switch (kind) {
            case 'c':
                return wild ? cells + below(2) : below(cells);
            case 's':
                return wild ? sides + below(2) : below(sides);
            case 'w':
                return below(3 + (wild ? 2 : 0));
            case 'i':
                return below(8) - 1;
            case 'n':
                return wild ? below(101) : 1 + below(4);
            case 'm':
                return 1 + below(40);
            case 'd':
                return wild ? below(5) : 1 + below(3);
            case 'l':
                return below(4) + (wild ? 1 : 0);
            case 'p':
                return below(wild ? 5 : 3);
            case 'r':
                return below(wild ? 63 : 8);
            case 'z':
                return wild ? 1_999_999_998L + below(5) : below(2_000_000_001);
            case 'k':
                return below(13) - 1;
            default:
                return below(4) == 0 ? random.nextLong() : below(8);
        }
    }

    private void aNight() {
        List<Integer> nights = m.now.lines == 0 ? List.of() : m.now.lawful(m.now.on);
        if (!nights.isEmpty()) {
            int night = nights.get(below(nights.size()));
            call("night", night / 100, night % 100);
        }
    }

    /** A slot has a row that some question can do with: nights, a walk, or where hedges stand. */
    private void fillSlot(boolean small) {
        int slot = below(4);
        long[] row;
        int width = below(4);
        int kind = below(4);
        if (kind == 0) {
            row = someNights();
            width = Math.max(width, 1);
        } else if (kind == 1) {
            row = new long[below(12)];
            for (int i = 0; i < row.length; i++) {
                row[i] = below(8);
            }
        } else if (kind == 2) {
            row = aWalk();
        } else {
            row = someHedges();
        }
        if (row.length > 0 && below(8) == 0) {
            row[below(row.length)] = argument('s') - 1;
        }
        call("row", slot, width, row.length);
        for (int i = 0; i < row.length; i++) {
            call("write", slot, i, below(6) == 0 ? row[i] + (1L << (8 << width)) : row[i]);
        }
        if (kind == 0) {
            call("out", slot, argument('c'), argument('n'));
        } else if (kind == 3 && small) {
            call("nights", slot);
        } else if (kind != 3) {
            long cell = argument('c');
            call("walk", slot, cell);
            call("ends", slot, cell);
            call("odd", slot, cell, argument('l'), argument('c'), below(2));
        }
    }

    private long[] someNights() {
        int[] on = m.now.on;
        List<Integer> row = new ArrayList<>();
        for (int i = below(4); i > 0; i--) {
            List<Integer> nights = m.now.lines == 0 ? List.of() : m.now.lawful(on);
            if (!nights.isEmpty()) {
                int night = nights.get(below(nights.size()));
                row.add(night);
                on = m.now.after(on, night / 100, night % 100);
            }
        }
        return row.stream().mapToLong(v -> v).toArray();
    }

    /** A walk that is so from a cell by the maze as it is, most of the time. */
    private long[] aWalk() {
        int at = below(Math.max(1, m.now.cells()));
        long[] row = new long[below(10)];
        for (int i = 0; i < row.length && m.now.lines > 0; i++) {
            int way = below(4);
            int side = m.now.sideTo(at, way);
            boolean isOpen = side >= 0 && m.now.on[side] == Model.OPEN;
            row[i] = isOpen ? way : way + 4;
            at = isOpen ? m.now.neighbour(at, way) : at;
        }
        return row;
    }

    private long[] someHedges() {
        int[] on = m.now.on;
        for (long night : someNights()) {
            on = m.now.after(on, (int) night / 100, (int) night % 100);
        }
        List<Long> row = new ArrayList<>();
        for (int s = 0; s < on.length; s++) {
            if (on[s] == Model.HEDGE) {
                row.add((long) s);
            }
        }
        Collections.shuffle(row, random);
        return row.stream().mapToLong(v -> v).toArray();
    }
}
