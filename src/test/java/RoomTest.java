import java.lang.management.ManagementFactory;
import java.lang.reflect.Array;
import java.lang.reflect.Field;
import java.lang.reflect.Modifier;
import java.util.Collections;
import java.util.IdentityHashMap;
import java.util.Set;

/** One object is small, and no call makes another, but for the first keep() of each image. */
public final class RoomTest {
    private static final String DEAR = "maze wide 5 long 5;gate at 0 0;gate at 4 4;letter at 2 2;"
        + "guest at 0 4;guest at 4 0;guest at 2 1;guest at 1 3;guest at 3 3;"
        + "hedge at 0 0 east;hedge at 2 0 east;hedge at 1 1 east;hedge at 3 1 east;"
        + "hedge at 0 2 east;hedge at 2 2 east;hedge at 1 3 east;hedge at 3 3 east;"
        + "hedge at 0 1 south;hedge at 2 2 south;hedge at 4 1 south;hedge at 1 3 south;";

    private final Checker check = new Checker();
    private long objects = 0;
    private long elements = 0;

    public static void main(String[] args) throws IllegalAccessException {
        RoomTest test = new RoomTest();
        HedgeMaze x = Checker.told(DEAR);
        test.fillSlots(x);
        x.keep(0);
        x.keep(1);
        x.keep(2);
        test.size(x);
        test.askAll(x, 0);
        test.calls(x);
        test.check.finish("RoomTest");
    }

    private void fillSlots(HedgeMaze x) {
        Checker.fill(x, 0, 0, 0, 4, 11, 15, 18, 22, 29, 33, 10, 23, 17, 38);
        Checker.fill(x, 1, 1, 2, 204, 402);
        Checker.fill(x, 2, 0, 2, 1, 5, 6, 3, 0, 2);
        x.row(3, 3, 60);
    }

    private void size(HedgeMaze x) throws IllegalAccessException {
        walk(x, Collections.newSetFromMap(new IdentityHashMap<>()));
        System.out.println("one object: " + objects + " objects and arrays, " + elements + " elements");
        check.about("one object with three images");
        check.holds("has few objects", objects < 100);
        check.holds("has few elements", elements < 8000);
    }

    private void walk(Object at, Set<Object> seen) throws IllegalAccessException {
        if (at == null || !seen.add(at)) {
            return;
        }
        objects++;
        Class<?> type = at.getClass();
        if (type.isArray()) {
            elements += Array.getLength(at);
            for (int i = 0; i < Array.getLength(at) && !type.getComponentType().isPrimitive(); i++) {
                walk(Array.get(at, i), seen);
            }
            return;
        }
        for (Field field : type.getDeclaredFields()) {
            if (!Modifier.isStatic(field.getModifiers())) {
                elements++;
                field.setAccessible(true);
                if (!field.getType().isPrimitive()) {
                    walk(field.get(at), seen);
                }
            }
        }
    }

    private void calls(HedgeMaze x) {
        com.sun.management.ThreadMXBean threads =
            (com.sun.management.ThreadMXBean) ManagementFactory.getThreadMXBean();
        long self = Thread.currentThread().getId();
        threads.getThreadAllocatedBytes(self);
        long before = threads.getThreadAllocatedBytes(self);
        // with the calls so far no more than the 512 that an object is made for
        for (int i = 0; i < 8; i++) {
            askAll(x, i);
        }
        long made = threads.getThreadAllocatedBytes(self) - before;
        System.out.println("bytes made by eight times all calls: " + made);
        check.about("eight times all calls");
        check.holds("make nothing", made < 4096);
    }

    private int askAll(HedgeMaze x, int i) {
        int sum = x.feed(i, i, i, i, i) + x.end(0) + x.fault(0) + x.sides() + x.side(i, 1) + x.what(i, 2);
        sum += x.far(i, 24) + x.way(0, 24, i) + x.gate(i) + x.within(i, 3) + x.shape(2) + x.bridge(i);
        sum += x.lawful(0, i) + x.many() + x.nth(i) + x.night(0, i) + x.dawn() + x.gone(-1);
        sum += x.may(i, 2) + x.nights(0) + x.out(1, i, 2) + x.held(i, 1, 3) + x.hold(2, 3) + x.worst(i);
        sum += x.guest(i) + x.meet(2) + x.tea(i) + x.served(i, 3) + x.letter(0) + x.goes(0, i);
        sum += x.walk(2, i) + x.ends(2, i) + x.odd(2, i, 2, 0, 0) + x.openings(-1) + x.drawn(i, 40, i);
        sum += x.lastly(i, 40) + x.count(i) + x.keep(0) + x.back(0) + x.row(3, 3, 60);
        return sum + x.write(3, i, i) + x.paste(3, 0, 3, 1, 59);
    }
}
