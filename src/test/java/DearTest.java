import java.util.ArrayList;
import java.util.Arrays;
import java.util.Collections;
import java.util.HashMap;
import java.util.HashSet;
import java.util.List;
import java.util.Map;
import java.util.Random;
import java.util.Set;

/**
 * What looks ahead over many nights, asked of mazes up to the greatest: held against all mazes that
 * can be had, one by one. Seeds are fixed; -Dmazes=.. makes it longer.
 */
public final class DearTest {
    private static final int MAZES = Integer.getInteger("mazes", 100);
    private static final int FAR_AWAY = 99;

    private final Checker check;
    private final Random random;
    private final int wide;
    private final int cells;
    private final int[] first;
    private final int[] other;
    private final StringBuilder text = new StringBuilder();
    /** A set of sides: the bits of a long at their numbers. */
    private long hedges = 0;
    private long walls = 0;
    private final List<Integer> gates = new ArrayList<>();
    private final boolean isNear;
    private final Map<String, Integer> heldBefore = new HashMap<>();
    private HedgeMaze x;

    private DearTest(Checker check, int seed) {
        this.check = check;
        random = new Random(seed);
        int least = seed % 2 == 0 ? 2 : 4;
        wide = least + random.nextInt(6 - least);
        int deep = least + random.nextInt(6 - least);
        cells = wide * deep;
        List<int[]> sides = new ArrayList<>();
        for (int cell = 0; cell < cells; cell++) {
            if (cell % wide < wide - 1) {
                sides.add(new int[] {cell, cell + 1});
            }
            if (cell + wide < cells) {
                sides.add(new int[] {cell, cell + wide});
            }
        }
        first = sides.stream().mapToInt(side -> side[0]).toArray();
        other = sides.stream().mapToInt(side -> side[1]).toArray();
        isNear = random.nextBoolean();
        text.append("maze wide ").append(wide).append(" long ").append(deep).append(";");
    }

    public static void main(String[] args) {
        Checker check = new Checker();
        for (int seed = 0; seed < MAZES; seed++) {
            new DearTest(check, seed).askAll();
        }
        check.finish("DearTest");
    }

    private void askAll() {
        hedges = put("hedge", random.nextInt(13));
        walls = put("wall", random.nextInt(13) / (1 + 2 * random.nextInt(2)));
        for (int i = random.nextInt(5); i > 0; i--) {
            int cell = random.nextInt(cells);
            if (!gates.contains(cell)) {
                gates.add(cell);
                text.append("gate at ").append(cell % wide).append(" ").append(cell / wide).append(";");
            }
        }
        text.append(isNear ? "law near;" : "");
        check.about(text.toString());
        x = Checker.told(text.toString());
        askNights();
        askHeld(1 + random.nextInt(4));
        askMay();
        askWays();
        askDrawn();
    }

    private long put(String word, int many) {
        long put = 0;
        for (int i = 0; i < 60 && Long.bitCount(put) < many; i++) {
            int side = random.nextInt(first.length);
            long bit = 1L << side;
            if (((put | hedges) & bit) == 0 && hangTogether(put | hedges | bit)) {
                put |= bit;
                text.append(word).append(" at ").append(first[side] % wide).append(" ")
                    .append(first[side] / wide)
                    .append(other[side] == first[side] + 1 ? " east;" : " south;");
            }
        }
        return put;
    }

    /** Steps of all cells from one, if just these sides are not open. */
    private int[] steps(long shut, int from) {
        int[] steps = new int[cells];
        Arrays.fill(steps, FAR_AWAY);
        steps[from] = 0;
        boolean goesOn = true;
        while (goesOn) {
            goesOn = false;
            for (int side = 0; side < first.length; side++) {
                int one = first[side];
                int two = other[side];
                if ((shut >> side & 1) == 0 && Math.abs(steps[one] - steps[two]) > 1) {
                    int nearer = Math.min(steps[one], steps[two]) + 1;
                    steps[steps[one] > steps[two] ? one : two] = nearer;
                    goesOn = true;
                }
            }
        }
        return steps;
    }

    private boolean hangTogether(long shut) {
        for (int away : steps(shut, 0)) {
            if (away == FAR_AWAY) {
                return false;
            }
        }
        return true;
    }

    private boolean touch(int one, int two) {
        return first[one] == first[two] || first[one] == other[two]
            || other[one] == first[two] || other[one] == other[two];
    }

    private List<Integer> lawful(long before) {
        List<Integer> found = new ArrayList<>();
        for (int from = 0; from < first.length; from++) {
            for (int to = 0; to < first.length; to++) {
                boolean moves = (before >> from & 1) == 1 && ((before | walls) >> to & 1) == 0;
                if (moves && (!isNear || touch(from, to))
                        && hangTogether(walls | after(before, 100 * from + to))) {
                    found.add(100 * from + to);
                }
            }
        }
        return found;
    }

    private static long after(long before, int night) {
        return before & ~(1L << night / 100) | 1L << night % 100;
    }

    private Set<Long> allAfter(Set<Long> before) {
        Set<Long> found = new HashSet<>();
        for (long one : before) {
            for (int night : lawful(one)) {
                found.add(after(one, night));
            }
        }
        return found;
    }

    private void askNights() {
        List<Integer> nights = lawful(hedges);
        check.due("many()", x.many(), nights.size());
        for (int i = 0; i <= nights.size() && i < 100; i++) {
            int due = i < nights.size() ? nights.get(i) : HedgeMaze.NONE;
            check.due("nth(" + i + ")", x.nth(i), due);
        }
    }

    private void askHeld(int steps) {
        for (int days = 1; days <= 3; days++) {
            int held = held(hedges, steps, days);
            check.due("hold(" + steps + ", " + days + ")", x.hold(steps, days), Integer.bitCount(held));
            for (int cell = 0; cell < cells; cell++) {
                String call = "held(" + cell + ", " + steps + ", " + days + ")";
                check.due(call, x.held(cell, steps, days), held >> cell & 1);
            }
        }
    }

    /** The cells from which he is held: none that he can come to is a gate or lets him go by night. */
    private int held(long now, int steps, int days) {
        String asked = now + " " + days;
        if (heldBefore.containsKey(asked)) {
            return heldBefore.get(asked);
        }
        List<Integer> nights = days > 1 ? lawful(now) : List.of();
        int safe = nights.isEmpty() && days > 1 ? held(now, steps, days - 1) : days > 1 ? 0 : -1;
        for (int night : nights) {
            safe |= held(after(now, night), steps, days - 1);
        }
        int held = 0;
        for (int cell = 0; cell < cells; cell++) {
            int[] away = steps(walls | now, cell);
            boolean isHeld = true;
            for (int to = 0; to < cells; to++) {
                boolean letsGo = gates.contains(to) || (safe >> to & 1) == 0;
                isHeld &= away[to] > steps || !letsGo;
            }
            held |= isHeld ? 1 << cell : 0;
        }
        heldBefore.put(asked, held);
        return held;
    }

    private void askMay() {
        Set<Long> then = Set.of(hedges);
        for (int nights = 1; nights <= 2; nights++) {
            then = allAfter(then);
            long shut = 0;
            long open = 0;
            for (long one : then) {
                shut |= one;
                open |= ~one;
            }
            for (int i = 0; i < 15; i++) {
                int side = random.nextInt(first.length);
                int due = (int) ((open >> side & 1) + 2 * (shut >> side & 1));
                boolean isWall = (walls >> side & 1) == 1;
                check.due("may(" + side + ", " + nights + ")", x.may(side, nights), isWall ? 4 : due);
            }
        }
    }

    /** Asks for the fewest nights to mazes near and far, by all that up to two nights can make. */
    private void askWays() {
        List<Set<Long>> by = new ArrayList<>(List.of(Set.of(hedges)));
        by.add(allAfter(by.get(0)));
        by.add(allAfter(by.get(1)));
        for (int i = 0; i < 12; i++) {
            long goal = hedges;
            for (int moves = random.nextInt(5); moves > 0; moves--) {
                goal = moved(goal, i % 2 == 0);
            }
            List<Long> row = new ArrayList<>();
            for (int side = 0; side < first.length; side++) {
                if ((goal >> side & 1) == 1) {
                    row.add((long) side);
                }
            }
            Collections.shuffle(row, random);
            Checker.fill(x, 0, random.nextInt(4), row.stream().mapToLong(side -> side).toArray());
            check.due("nights() to " + row, x.nights(0), fewest(by, goal));
        }
    }

    /** A hedge goes somewhere, and it may be that not all cells hang together then. */
    private long moved(long before, boolean goesNear) {
        for (int i = 0; i < 40; i++) {
            int from = random.nextInt(first.length);
            int to = random.nextInt(first.length);
            boolean moves = (before >> from & 1) == 1 && ((before | walls) >> to & 1) == 0;
            if (moves && (!goesNear || touch(from, to))) {
                return after(before, 100 * from + to);
            }
        }
        return before;
    }

    /** A third night is undone from the goal: nights can be gone back. */
    private int fewest(List<Set<Long>> by, long goal) {
        for (int nights = 0; nights < by.size(); nights++) {
            if (by.get(nights).contains(goal)) {
                return nights;
            }
        }
        if (!hangTogether(walls | goal)) {
            return HedgeMaze.NONE;
        }
        return Collections.disjoint(by.get(2), allAfter(Set.of(goal))) ? HedgeMaze.NONE : 3;
    }

    private void askDrawn() {
        int seed = random.nextInt(2_000_000_001);
        long then = hedges;
        long draw = seed;
        int last = HedgeMaze.NONE;
        for (int night = 0; night <= 40; night++) {
            int cell = random.nextInt(cells);
            check.due("lastly(" + seed + ", " + night + ")", x.lastly(seed, night), last);
            String call = "drawn(" + seed + ", " + night + ", " + cell + ")";
            check.due(call, x.drawn(seed, night, cell), toGate(then, cell));
            List<Integer> nights = lawful(then);
            if (!nights.isEmpty()) {
                draw = (1103515245L * draw + 12345L) % 2147483648L;
                last = nights.get((int) (draw / 65536 % nights.size()));
                then = after(then, last);
            }
        }
    }

    private int toGate(long then, int cell) {
        int[] away = steps(walls | then, cell);
        int least = HedgeMaze.NONE;
        for (int gate : gates) {
            least = least == HedgeMaze.NONE ? away[gate] : Math.min(least, away[gate]);
        }
        return least;
    }
}
