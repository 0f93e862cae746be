import java.util.ArrayDeque;
import java.util.ArrayList;
import java.util.Arrays;
import java.util.HashSet;
import java.util.List;
import java.util.Set;

/**
 * The document's words over again, as plainly as can be and with no thought for speed: what the
 * class answers is held against it. It shares no code with the class, and goes other ways: sides
 * are pairs of cells in a list, ways are found by a queue, the game of the days is played out.
 */
final class Model {
    static final int OPEN = 0;
    static final int HEDGE = 1;
    static final int WALL = 2;

    byte[] tape = new byte[0];
    int fault = 0;
    int faultPlace = -1;
    State now = new State();
    final State[] images = new State[3];
    final Object[] slots = new Object[4];

    static final class State {
        int wide = 0;
        int deep = 0;
        int lines = 0;
        int[] first = {};
        int[] other = {};
        int[] on = {};
        List<Integer> gates = new ArrayList<>();
        List<Integer> guests = new ArrayList<>();
        int letter = -1;
        boolean near = false;
        boolean lawTold = false;
        List<Integer> gone = new ArrayList<>();

        State copy() {
            State s = new State();
            s.wide = wide;
            s.deep = deep;
            s.lines = lines;
            s.first = first.clone();
            s.other = other.clone();
            s.on = on.clone();
            s.gates = new ArrayList<>(gates);
            s.guests = new ArrayList<>(guests);
            s.letter = letter;
            s.near = near;
            s.lawTold = lawTold;
            s.gone = new ArrayList<>(gone);
            return s;
        }

        int cells() {
            return wide * deep;
        }

        void makeSides() {
            List<int[]> pairs = new ArrayList<>();
            for (int a = 0; a < cells(); a++) {
                for (int b = a + 1; b < cells(); b++) {
                    int dx = Math.abs(a % wide - b % wide);
                    int dy = Math.abs(a / wide - b / wide);
                    if (dx + dy == 1) {
                        pairs.add(new int[] {a, b});
                    }
                }
            }
            // by the lesser cell; its neighbour to the east has a lesser number than to the south
            pairs.sort((p, q) -> p[0] != q[0] ? p[0] - q[0] : p[1] - q[1]);
            first = pairs.stream().mapToInt(p -> p[0]).toArray();
            other = pairs.stream().mapToInt(p -> p[1]).toArray();
            on = new int[pairs.size()];
        }

        int sideBetween(int a, int b) {
            for (int s = 0; s < on.length; s++) {
                if (first[s] == a && other[s] == b || first[s] == b && other[s] == a) {
                    return s;
                }
            }
            return -1;
        }

        int neighbour(int cell, int way) {
            int x = cell % wide + new int[] {0, 1, 0, -1}[way];
            int y = cell / wide + new int[] {-1, 0, 1, 0}[way];
            return x < 0 || y < 0 || x >= wide || y >= deep ? -1 : y * wide + x;
        }

        int sideTo(int cell, int way) {
            int next = neighbour(cell, way);
            return next < 0 ? -1 : sideBetween(cell, next);
        }

        int[] distances(int[] onSides, int from) {
            int[] d = new int[cells()];
            Arrays.fill(d, -1);
            d[from] = 0;
            ArrayDeque<Integer> queue = new ArrayDeque<>(List.of(from));
            while (!queue.isEmpty()) {
                int c = queue.remove();
                for (int w = 0; w < 4; w++) {
                    int s = sideTo(c, w);
                    if (s >= 0 && onSides[s] == OPEN && d[neighbour(c, w)] < 0) {
                        d[neighbour(c, w)] = d[c] + 1;
                        queue.add(neighbour(c, w));
                    }
                }
            }
            return d;
        }

        boolean connected(int[] onSides) {
            return Arrays.stream(distances(onSides, 0)).allMatch(d -> d >= 0);
        }

        List<Integer> bridges(int[] onSides) {
            List<Integer> found = new ArrayList<>();
            for (int s = 0; s < on.length; s++) {
                if (onSides[s] == OPEN) {
                    int[] without = onSides.clone();
                    without[s] = WALL;
                    if (!connected(without)) {
                        found.add(s);
                    }
                }
            }
            return found;
        }

        int judge(int[] onSides, int from, int to) {
            if (onSides[from] != HEDGE) {
                return 1;
            }
            if (onSides[to] != OPEN) {
                return 2;
            }
            Set<Integer> ends = new HashSet<>(List.of(first[from], other[from]));
            if (near && !ends.contains(first[to]) && !ends.contains(other[to])) {
                return 3;
            }
            return connected(after(onSides, from, to)) ? 0 : 4;
        }

        int[] after(int[] onSides, int from, int to) {
            int[] then = onSides.clone();
            then[from] = OPEN;
            then[to] = HEDGE;
            return then;
        }

        List<Integer> lawful(int[] onSides) {
            List<Integer> found = new ArrayList<>();
            for (int f = 0; f < on.length; f++) {
                for (int t = 0; t < on.length; t++) {
                    if (judge(onSides, f, t) == 0) {
                        found.add(100 * f + t);
                    }
                }
            }
            return found;
        }

        int gateSteps(int[] onSides, int cell) {
            int[] d = distances(onSides, cell);
            return gates.stream().mapToInt(g -> d[g]).min().orElse(-1);
        }

        List<Integer> firstWay(int cell, int to) {
            int[] d = distances(on, to);
            List<Integer> way = new ArrayList<>(List.of(cell));
            int at = cell;
            while (at != to) {
                for (int w = 0; w < 4; w++) {
                    int s = sideTo(at, w);
                    if (s >= 0 && on[s] == OPEN && d[neighbour(at, w)] == d[at] - 1) {
                        at = neighbour(at, w);
                        break;
                    }
                }
                way.add(at);
            }
            return way;
        }

        /** The game played out: he goes where he likes, then they look for a night. */
        boolean held(int[] onSides, int cell, int n, int d) {
            int[] steps = distances(onSides, cell);
            for (int g : gates) {
                if (steps[g] >= 0 && steps[g] <= n) {
                    return false;
                }
            }
            if (d == 1) {
                return true;
            }
            List<Integer> nights = lawful(onSides);
            for (int c = 0; c < cells(); c++) {
                if (steps[c] < 0 || steps[c] > n) {
                    continue;
                }
                boolean can = false;
                if (nights.isEmpty()) {
                    can = held(onSides, c, n, d - 1);
                }
                for (int night : nights) {
                    if (held(after(onSides, night / 100, night % 100), c, n, d - 1)) {
                        can = true;
                        break;
                    }
                }
                if (!can) {
                    return false;
                }
            }
            return true;
        }
    }

    // ---- tape ----

    int feed(int a, int b, int c, int d, int e) {
        if (tape.length + 20 > 1600) {
            return -1;
        }
        int at = tape.length;
        tape = Arrays.copyOf(tape, at + 20);
        for (int number : new int[] {a, b, c, d, e}) {
            for (int i = 3; i >= 0; i--) {
                tape[at++] = (byte) (number >>> (8 * i));
            }
        }
        return tape.length;
    }

    int end(int n) {
        if (n < 0 || n > tape.length) {
            return -1;
        }
        tape = Arrays.copyOf(tape, n);
        return n;
    }

    record Token(char kind, String text, int place) { }

    private List<Token> tokens() {
        List<Token> found = new ArrayList<>();
        StringBuilder text = new StringBuilder();
        for (byte b : tape) {
            text.append((char) (b & 255));
        }
        java.util.regex.Matcher m =
            java.util.regex.Pattern.compile("([a-z]+)|([0-9]+)|(;)|([ \n])|([\\s\\S])").matcher(text);
        while (m.find()) {
            if (m.group(4) != null) {
                continue;
            }
            char kind = m.group(1) != null ? 'w' : m.group(2) != null ? 'n' : m.group(3) != null ? ';' : '?';
            found.add(new Token(kind, m.group(), m.start()));
        }
        found.add(new Token('e', "", tape.length));
        return found;
    }

    private static final String[] FORMS = {
        "maze wide N long N ;", "wall at X Y T ;", "hedge at X Y T ;", "gate at X Y ;",
        "guest at X Y ;", "letter at X Y ;", "law L ;"};

    int maze() {
        State s = new State();
        fault = 0;
        faultPlace = -1;
        List<Token> tokens = tokens();
        int at = 0;
        while (fault == 0 && tokens.get(at).kind() != 'e') {
            at = line(s, tokens, at);
        }
        if (fault == 0 && s.lines > 0 && !s.connected(s.on)) {
            fault = 2;
            faultPlace = tape.length;
        }
        if (fault != 0) {
            return -4;
        }
        now = s;
        tape = new byte[0];
        return s.lines;
    }

    private int line(State s, List<Token> tokens, int start) {
        String[] form = null;
        for (String f : FORMS) {
            String[] parts = f.split(" ");
            boolean fits = parts[0].equals(tokens.get(start).text());
            if (fits && parts[0].equals("maze") == (s.lines == 0)) {
                form = parts;
            }
        }
        int[] numbers = new int[2];
        int many = 0;
        String word = "";
        int at = start;
        for (int i = 0; form == null || i < form.length; i++) {
            Token t = tokens.get(at);
            int bad = form == null ? 1 : tokenFault(s, form, i, t, numbers, many);
            if (bad != 0) {
                fault = bad;
                faultPlace = t.place();
                return at;
            }
            if (t.kind() == 'n') {
                numbers[many++] = Integer.parseInt(t.text().replaceFirst("^0+(?=.)", ""));
            }
            if (t.kind() == 'w') {
                word = t.text();
            }
            at++;
        }
        apply(s, form[0], numbers, word);
        s.lines++;
        return at;
    }

    private int tokenFault(State s, String[] form, int i, Token t, int[] numbers, int many) {
        String want = form[i];
        int cell = many == 2 ? s.wide * numbers[1] + numbers[0] : -1;
        switch (want) {
            case "N":
                return t.kind() != 'n' ? 1 : between(t.text(), 2, 5) ? 0 : 2;
            case "X":
                return t.kind() != 'n' ? 1 : between(t.text(), 0, s.wide - 1) ? 0 : 2;
            case "Y":
                if (t.kind() != 'n') {
                    return 1;
                }
                if (!between(t.text(), 0, s.deep - 1)) {
                    return 2;
                }
                int here = s.wide * Integer.parseInt(t.text().replaceFirst("^0+(?=.)", "")) + numbers[0];
                return form[0].equals("gate") && s.gates.contains(here) ? 2 : 0;
            case "T":
                if (!t.text().equals("east") && !t.text().equals("south")) {
                    return 1;
                }
                int side = s.sideTo(cell, t.text().equals("east") ? 1 : 2);
                return side < 0 || s.on[side] != OPEN ? 2 : 0;
            case "L":
                return t.text().equals("far") || t.text().equals("near") ? 0 : 1;
            default:
                if (!t.text().equals(want)) {
                    return 1;
                }
                return i == 0 ? headFault(s, want) : 0;
        }
    }

    private static boolean between(String digits, int low, int high) {
        java.math.BigInteger v = new java.math.BigInteger(digits);
        return v.compareTo(java.math.BigInteger.valueOf(low)) >= 0
            && v.compareTo(java.math.BigInteger.valueOf(high)) <= 0;
    }

    private int headFault(State s, String head) {
        switch (head) {
            case "wall":
                return count(s, WALL) >= 12 ? 3 : 0;
            case "hedge":
                return count(s, HEDGE) >= 12 ? 3 : 0;
            case "gate":
                return s.gates.size() >= 4 ? 3 : 0;
            case "guest":
                return s.guests.size() >= 5 ? 3 : 0;
            case "letter":
                return s.letter >= 0 ? 2 : 0;
            case "law":
                return s.lawTold ? 2 : 0;
            default:
                return 0;
        }
    }

    private void apply(State s, String head, int[] n, String word) {
        if (head.equals("maze")) {
            s.wide = n[0];
            s.deep = n[1];
            s.makeSides();
            return;
        }
        int cell = s.wide * n[1] + n[0];
        switch (head) {
            case "wall":
            case "hedge":
                s.on[s.sideTo(cell, word.equals("east") ? 1 : 2)] = head.equals("wall") ? WALL : HEDGE;
                break;
            case "gate":
                s.gates.add(cell);
                break;
            case "guest":
                s.guests.add(cell);
                break;
            case "letter":
                s.letter = cell;
                break;
            default:
                s.lawTold = true;
                s.near = word.equals("near");
        }
    }

    private static int count(State s, int what) {
        return (int) Arrays.stream(s.on).filter(o -> o == what).count();
    }

    int fault(int what) {
        return what == 0 ? fault : what == 1 ? faultPlace : -1;
    }

    // ---- cells and sides ----

    private boolean none() {
        return now.lines == 0;
    }

    private boolean cell(int c) {
        return c >= 0 && c < now.cells();
    }

    private boolean isSide(int s) {
        return s >= 0 && s < now.on.length;
    }

    int sides() {
        return none() ? -2 : now.on.length;
    }

    int side(int c, int way) {
        return !cell(c) || way < 0 || way > 3 ? -2 : now.sideTo(c, way);
    }

    int what(int s, int what) {
        if (!isSide(s) || what < 0 || what > 2) {
            return -2;
        }
        return what == 0 ? now.first[s] : what == 1 ? now.other[s] : now.on[s];
    }

    int far(int c, int to) {
        return !cell(c) || !cell(to) ? -2 : now.distances(now.on, c)[to];
    }

    int way(int c, int to, int i) {
        if (!cell(c) || !cell(to)) {
            return -2;
        }
        List<Integer> way = now.firstWay(c, to);
        return i < 0 || i >= way.size() ? -1 : way.get(i);
    }

    int gate(int c) {
        return !cell(c) ? -2 : now.gateSteps(now.on, c);
    }

    int within(int c, int n) {
        if (!cell(c) || n < 0 || n > 99) {
            return -2;
        }
        return (int) Arrays.stream(now.distances(now.on, c)).filter(d -> d >= 0 && d <= n).count();
    }

    int shape(int what) {
        if (none() || what < 0 || what > 3) {
            return -2;
        }
        int open = count(now, OPEN);
        if (what == 1) {
            return open - (now.cells() - 1);
        }
        if (what == 3) {
            return open;
        }
        int ends = 0;
        int most = 0;
        for (int c = 0; c < now.cells(); c++) {
            int ways = 0;
            for (int s = 0; s < now.on.length; s++) {
                if (now.on[s] == OPEN && (now.first[s] == c || now.other[s] == c)) {
                    ways++;
                }
            }
            ends += ways == 1 ? 1 : 0;
            most = Math.max(most, Arrays.stream(now.distances(now.on, c)).max().getAsInt());
        }
        return what == 0 ? ends : most;
    }

    private static int ith(List<Integer> list, int what) {
        return what == -1 ? list.size() : what < list.size() ? list.get(what) : -1;
    }

    int bridge(int what) {
        return none() || what < -1 ? -2 : ith(now.bridges(now.on), what);
    }

    // ---- nights ----

    int lawful(int from, int to) {
        return !isSide(from) || !isSide(to) ? -2 : now.judge(now.on, from, to);
    }

    int many() {
        return none() ? -2 : now.lawful(now.on).size();
    }

    int nth(int i) {
        if (none()) {
            return -2;
        }
        return i < 0 ? -1 : ith(now.lawful(now.on), i);
    }

    int night(int from, int to) {
        int verdict = lawful(from, to);
        if (verdict != 0) {
            return verdict;
        }
        if (now.gone.size() == 99) {
            return -3;
        }
        now.on = now.after(now.on, from, to);
        now.gone.add(100 * from + to);
        return 0;
    }

    int dawn() {
        if (none()) {
            return -2;
        }
        if (now.gone.isEmpty()) {
            return 0;
        }
        int night = now.gone.remove(now.gone.size() - 1);
        now.on = now.after(now.on, night % 100, night / 100);
        return 1;
    }

    int gone(int what) {
        return none() || what < -1 ? -2 : ith(now.gone, what);
    }

    int may(int side, int n) {
        if (!isSide(side) || n < 1 || n > 2) {
            return -2;
        }
        if (now.on[side] == WALL) {
            return 4;
        }
        int found = 0;
        for (int[] then : mazesBehind(n)) {
            found |= then[side] == OPEN ? 1 : 2;
        }
        return found;
    }

    private List<int[]> mazesBehind(int n) {
        List<int[]> mazes = new ArrayList<>(List.of(now.on));
        for (int i = 0; i < n; i++) {
            Set<String> seen = new HashSet<>();
            List<int[]> next = new ArrayList<>();
            for (int[] m : mazes) {
                for (int night : now.lawful(m)) {
                    int[] then = now.after(m, night / 100, night % 100);
                    if (seen.add(Arrays.toString(then))) {
                        next.add(then);
                    }
                }
            }
            mazes = next;
        }
        return mazes;
    }

    int nights(int slot) {
        if (slot < 0 || slot > 3 || none()) {
            return -2;
        }
        if (slots[slot] == null) {
            return -6;
        }
        long[] row = numbers(slot);
        if (row.length != count(now, HEDGE)) {
            return -7;
        }
        int[] goal = now.on.clone();
        for (int s = 0; s < goal.length; s++) {
            goal[s] = goal[s] == WALL ? WALL : OPEN;
        }
        for (long v : row) {
            if (v < 0 || v >= goal.length || goal[(int) v] != OPEN) {
                return -2;
            }
            goal[(int) v] = HEDGE;
        }
        for (int n = 0; n <= 3; n++) {
            for (int[] m : mazesBehind(n)) {
                if (Arrays.equals(m, goal)) {
                    return n;
                }
            }
        }
        return -1;
    }

    int out(int slot, int c, int n) {
        if (slot < 0 || slot > 3 || !cell(c) || n < 1 || n > 99) {
            return -2;
        }
        if (slots[slot] == null) {
            return -6;
        }
        List<int[]> days = new ArrayList<>(List.of(now.on));
        for (long v : numbers(slot)) {
            int[] m = days.get(days.size() - 1);
            if (v < 0 || v > 9999 || !isSide((int) v / 100) || !isSide((int) v % 100)
                    || now.judge(m, (int) v / 100, (int) v % 100) != 0) {
                return -5;
            }
            days.add(now.after(m, (int) v / 100, (int) v % 100));
        }
        Set<Integer> places = new HashSet<>(Set.of(c));
        for (int day = 0; day < days.size(); day++) {
            Set<Integer> next = new HashSet<>();
            for (int p : places) {
                int[] d = now.distances(days.get(day), p);
                for (int q = 0; q < d.length; q++) {
                    if (d[q] >= 0 && d[q] <= n) {
                        next.add(q);
                    }
                }
            }
            places = next;
            for (int g : now.gates) {
                if (places.contains(g)) {
                    return day;
                }
            }
        }
        return -1;
    }

    int held(int c, int n, int d) {
        if (!cell(c) || n < 1 || n > 99 || d < 1 || d > 3) {
            return -2;
        }
        return now.held(now.on, c, n, d) ? 1 : 0;
    }

    int hold(int n, int d) {
        if (none() || n < 1 || n > 99 || d < 1 || d > 3) {
            return -2;
        }
        int found = 0;
        for (int c = 0; c < now.cells(); c++) {
            found += held(c, n, d);
        }
        return found;
    }

    int worst(int c) {
        if (!cell(c)) {
            return -2;
        }
        int most = -1;
        int found = -1;
        for (int night : now.lawful(now.on)) {
            int steps = now.gateSteps(now.after(now.on, night / 100, night % 100), c);
            if (steps > most) {
                most = steps;
                found = night;
            }
        }
        return found;
    }

    // ---- guests ----

    int guest(int i) {
        return i < 0 || i >= now.guests.size() ? -1 : now.guests.get(i);
    }

    int meet(int what) {
        if (none() || what < 0 || what > 2) {
            return -2;
        }
        if (now.guests.isEmpty()) {
            return -1;
        }
        int best = -1;
        int fewest = 0;
        int together = 0;
        for (int c = 0; c < now.cells(); c++) {
            int[] d = now.distances(now.on, c);
            int most = now.guests.stream().mapToInt(g -> d[g]).max().getAsInt();
            if (best < 0 || most < fewest) {
                best = c;
                fewest = most;
                together = now.guests.stream().mapToInt(g -> d[g]).sum();
            }
        }
        return what == 0 ? best : what == 1 ? fewest : together;
    }

    private List<Integer> bestOrder;
    private int bestSteps;

    private void rounds(int start, int at, List<Integer> order, int steps) {
        if (order.size() == now.guests.size()) {
            int whole = steps + now.distances(now.on, at)[start];
            if (bestOrder == null || whole < bestSteps) {
                bestOrder = new ArrayList<>(order);
                bestSteps = whole;
            }
            return;
        }
        for (int g = 0; g < now.guests.size(); g++) {
            if (!order.contains(g)) {
                int there = now.guests.get(g);
                order.add(g);
                rounds(start, there, order, steps + now.distances(now.on, at)[there]);
                order.remove(order.size() - 1);
            }
        }
    }

    int tea(int c) {
        if (!cell(c)) {
            return -2;
        }
        bestOrder = null;
        rounds(c, c, new ArrayList<>(), 0);
        return bestSteps;
    }

    int served(int c, int i) {
        if (!cell(c)) {
            return -2;
        }
        tea(c);
        return i < 0 ? -1 : ith(bestOrder, i);
    }

    int letter(int what) {
        if (none() || what < 0 || what > 1) {
            return -2;
        }
        if (now.letter < 0 || now.gates.isEmpty()) {
            return -1;
        }
        for (int step = 0; step < 25; step++) {
            for (int g = 0; g < now.guests.size(); g++) {
                List<Integer> way = now.firstWay(now.guests.get(g), now.gates.get(0));
                if (step < way.size() && way.get(step) == now.letter) {
                    return what == 0 ? g : step;
                }
            }
        }
        return -1;
    }

    int goes(int guest, int c) {
        if (guest < 0 || guest >= now.guests.size() || !cell(c)) {
            return -2;
        }
        return now.guests.set(guest, c);
    }

    // ---- walks ----

    private int walkRefusal(int slot, int c) {
        if (slot < 0 || slot > 3 || !cell(c)) {
            return -2;
        }
        if (slots[slot] == null) {
            return -6;
        }
        return Arrays.stream(numbers(slot)).allMatch(v -> v >= 0 && v <= 7) ? 0 : -2;
    }

    private int[] walked(int slot, int c) {
        int done = 0;
        int at = c;
        for (long v : numbers(slot)) {
            int side = now.sideTo(at, (int) v % 4);
            boolean open = side >= 0 && now.on[side] == OPEN;
            if (v < 4 && !open || v >= 4 && open) {
                break;
            }
            if (v < 4) {
                at = now.neighbour(at, (int) v);
            }
            done++;
        }
        return new int[] {done, at};
    }

    int walk(int slot, int c) {
        int no = walkRefusal(slot, c);
        return no != 0 ? no : walked(slot, c)[0];
    }

    int ends(int slot, int c) {
        int no = walkRefusal(slot, c);
        return no != 0 ? no : walked(slot, c)[1];
    }

    private void tell(int slot, int c, Set<Integer> open, Set<Integer> shut) {
        int at = c;
        for (long v : numbers(slot)) {
            int next = now.neighbour(at, (int) v % 4);
            if (next < 0) {
                continue;
            }
            (v < 4 ? open : shut).add(now.sideBetween(at, next));
            at = v < 4 ? next : at;
        }
    }

    int odd(int slot, int c, int other, int from, int what) {
        if (what < 0 || what > 1) {
            return -2;
        }
        int no = walkRefusal(slot, c);
        no = no != 0 ? no : walkRefusal(other, from);
        if (no != 0) {
            return no;
        }
        Set<Integer> open1 = new HashSet<>();
        Set<Integer> shut1 = new HashSet<>();
        Set<Integer> open2 = new HashSet<>();
        Set<Integer> shut2 = new HashSet<>();
        tell(slot, c, open1, shut1);
        tell(other, from, open2, shut2);
        List<Integer> found = new ArrayList<>();
        for (int s = 0; s < now.on.length; s++) {
            if (open1.contains(s) && shut2.contains(s) || shut1.contains(s) && open2.contains(s)) {
                found.add(s);
            }
        }
        return what == 0 ? found.size() : found.isEmpty() ? -1 : found.get(0);
    }

    // ---- openings and draws ----

    int openings(int what) {
        if (none() || what < -1) {
            return -2;
        }
        List<Integer> hedges = new ArrayList<>();
        for (int s = 0; s < now.on.length; s++) {
            if (now.on[s] == HEDGE) {
                hedges.add(s);
            }
        }
        List<Integer> best = null;
        for (int mask = 0; mask < 1 << hedges.size(); mask++) {
            if (Integer.bitCount(mask) > 3) {
                continue;
            }
            List<Integer> row = new ArrayList<>();
            int[] then = now.on.clone();
            for (int i = 0; i < hedges.size(); i++) {
                if ((mask >> i & 1) != 0) {
                    row.add(hedges.get(i));
                    then[hedges.get(i)] = OPEN;
                }
            }
            if (now.bridges(then).isEmpty() && (best == null || isAhead(row, best))) {
                best = row;
            }
        }
        return best == null ? -1 : ith(best, what);
    }

    private static boolean isAhead(List<Integer> row, List<Integer> other) {
        if (row.size() != other.size()) {
            return row.size() < other.size();
        }
        for (int i = 0; i < row.size(); i++) {
            if (!row.get(i).equals(other.get(i))) {
                return row.get(i) < other.get(i);
            }
        }
        return false;
    }

    private int lastDrawn;

    private int[] draw(int seed, int n) {
        int[] m = now.on;
        java.math.BigInteger x = java.math.BigInteger.valueOf(seed);
        lastDrawn = -1;
        for (int i = 0; i < n; i++) {
            List<Integer> nights = now.lawful(m);
            if (nights.isEmpty()) {
                continue;
            }
            x = x.multiply(java.math.BigInteger.valueOf(1103515245)).add(java.math.BigInteger.valueOf(12345))
                .mod(java.math.BigInteger.valueOf(2147483648L));
            lastDrawn = nights.get(x.intValueExact() / 65536 % nights.size());
            m = now.after(m, lastDrawn / 100, lastDrawn % 100);
        }
        return m;
    }

    int drawn(int seed, int n, int c) {
        if (seed < 0 || seed > 2_000_000_000 || n < 0 || n > 40 || !cell(c)) {
            return -2;
        }
        return now.gateSteps(draw(seed, n), c);
    }

    int lastly(int seed, int n) {
        if (seed < 0 || seed > 2_000_000_000 || n < 0 || n > 40 || none()) {
            return -2;
        }
        draw(seed, n);
        return lastDrawn;
    }

    // ---- counts, images, slots ----

    int count(int what) {
        int rows = 0;
        for (Object slot : slots) {
            rows += slot == null ? 0 : 1;
        }
        int[] all = {now.wide, now.deep, count(now, HEDGE), count(now, WALL), now.gates.size(),
            now.guests.size(), now.lines, tape.length, now.near ? 1 : 0, now.letter, rows};
        return what < 0 || what >= all.length ? -1 : all[what];
    }

    int keep(int k) {
        if (k < 0 || k > 2) {
            return -2;
        }
        images[k] = now.copy();
        return 0;
    }

    int back(int k) {
        if (k < 0 || k > 2) {
            return -2;
        }
        if (images[k] == null) {
            return -6;
        }
        now = images[k].copy();
        return 0;
    }

    long[] numbers(int slot) {
        int n = java.lang.reflect.Array.getLength(slots[slot]);
        long[] row = new long[n];
        for (int i = 0; i < n; i++) {
            row[i] = java.lang.reflect.Array.getLong(slots[slot], i);
        }
        return row;
    }

    int row(int slot, int width, int n) {
        if (slot < 0 || slot > 3 || width < 0 || width > 3 || n > 60) {
            return -2;
        }
        if (n < 0) {
            return -3;
        }
        slots[slot] = width == 0 ? new byte[n] : width == 1 ? new short[n] : width == 2 ? new int[n] : new long[n];
        return 0;
    }

    int write(int slot, int i, long v) {
        if (slot < 0 || slot > 3) {
            return -2;
        }
        Object row = slots[slot];
        if (row == null) {
            return -6;
        }
        if (i < 0 || i >= java.lang.reflect.Array.getLength(row)) {
            return -7;
        }
        if (row instanceof byte[] bytes) {
            bytes[i] = (byte) v;
        } else if (row instanceof short[] shorts) {
            shorts[i] = (short) v;
        } else if (row instanceof int[] ints) {
            ints[i] = (int) v;
        } else {
            ((long[]) row)[i] = v;
        }
        return 0;
    }

    int paste(int slot, int i, int to, int k, int n) {
        if (slot < 0 || slot > 3 || to < 0 || to > 3) {
            return -2;
        }
        if (slots[slot] == null || slots[to] == null) {
            return -6;
        }
        if (slots[slot].getClass() != slots[to].getClass()) {
            return -8;
        }
        long rest = java.lang.reflect.Array.getLength(slots[slot]) - (long) i;
        long room = java.lang.reflect.Array.getLength(slots[to]) - (long) k;
        if (i < 0 || k < 0 || n < 0 || rest < n || room < n) {
            return -7;
        }
        long[] before = numbers(slot);
        for (int j = 0; j < n; j++) {
            write(to, k + j, before[i + j]);
        }
        return 0;
    }
}
