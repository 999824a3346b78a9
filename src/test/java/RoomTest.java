import java.lang.management.ManagementFactory;
import java.lang.reflect.Array;
import java.lang.reflect.Field;
import java.lang.reflect.Modifier;
import java.util.ArrayDeque;
import java.util.Collections;
import java.util.Deque;
import java.util.IdentityHashMap;
import java.util.Set;

/** All calls of one run live in one room: an object takes little of it, and its calls make none. */
public final class RoomTest extends Checks {
    private static final int MOST_OBJECTS = 100;
    private static final int MOST_ELEMENTS = 10_000;
    private static final String TEXT = "sands 9 7;ebb 6;wait 20;fog 1 2 3 4;moves 1 2;quick 4 4;ladder 1 3;water tick/12-wind;"
            + "walk 1 0 0 0;horse 4 3 6 20;stilts 2 1 3 0;run 3 2 3 1;run 1 0 3 2;walk 1 1 3 3;quarrel 0 5;";

    private final Set<Object> seen = Collections.newSetFromMap(new IdentityHashMap<>());
    private final Deque<Object> open = new ArrayDeque<>();
    private int elements;

    public static void main(String[] args) throws IllegalAccessException {
        EbbIsland x = new EbbIsland();
        RoomTest before = new RoomTest();
        before.measure(x);
        due("a new object's objects are few: " + before.seen.size(), before.seen.size() <= MOST_OBJECTS, true);
        due("a new object's elements are few: " + before.elements, before.elements <= MOST_ELEMENTS, true);
        feed(x, TEXT);
        due("island", x.island(TEXT.length()), 0);
        everyCall(x);
        RoomTest after = new RoomTest();
        after.measure(x);
        due("objects behind all calls", after.seen.size(), before.seen.size());
        due("elements behind all calls", after.elements, before.elements);
        madeByCalls(x);
        end("RoomTest");
    }

    private void measure(Object root) throws IllegalAccessException {
        reach(root);
        while (!open.isEmpty()) {
            Object o = open.remove();
            if (o.getClass().isArray()) {
                measureRow(o);
            } else {
                measureFields(o);
            }
        }
    }

    private void reach(Object o) {
        if (o != null && seen.add(o)) {
            open.add(o);
        }
    }

    private void measureRow(Object row) {
        elements += Array.getLength(row);
        for (int i = 0; i < Array.getLength(row) && !row.getClass().getComponentType().isPrimitive(); i++) {
            reach(Array.get(row, i));
        }
    }

    private void measureFields(Object o) throws IllegalAccessException {
        for (Field f : o.getClass().getDeclaredFields()) {
            if (!Modifier.isStatic(f.getModifiers())) {
                elements++;
                f.setAccessible(true);
                if (!f.getType().isPrimitive()) {
                    reach(f.get(o));
                }
            }
        }
    }

    private static void madeByCalls(EbbIsland x) {
        com.sun.management.ThreadMXBean threads = (com.sun.management.ThreadMXBean) ManagementFactory.getThreadMXBean();
        if (!threads.isThreadAllocatedMemorySupported()) {
            return;
        }
        long thread = Thread.currentThread().getId();
        long least = Long.MAX_VALUE;
        // The machine itself makes something at times: the least of some tries is the calls' own.
        for (int i = 0; i < 20; i++) {
            long before = threads.getThreadAllocatedBytes(thread);
            long asked = threads.getThreadAllocatedBytes(thread);
            everyCall(x);
            least = Math.min(least, threads.getThreadAllocatedBytes(thread) - asked - (asked - before));
        }
        due("bytes that calls make", least, 0);
    }

    private static long everyCall(EbbIsland x) {
        long sum = x.feed(0x65626220, 0x353b7761, 0x6c6b2032, 0x20352030, 0x20303b20);
        sum += x.island(19) + x.feed(0x65626220, 0x353b2020, 0, 0, 0) + x.island(9) + x.fault();
        sum += x.burials() + x.motions(0) + x.count(8);
        feedAgain(x);
        sum += x.burials() + x.buried(0) + x.queue(5) + x.heir(5) + x.cell(1, 0) + x.water(1, 1) + x.party(1, 1);
        sum += (x.quick(4, 4) ? 1 : 0) + (x.may(0, 4, 4, 4) ? 1 : 0) + x.cross(0, 4, 4) + x.way(0) + x.starts(0, 4, 2);
        for (int party = 0; party < 6; party++) {
            sum += x.book(party, 20, 0);
        }
        sum += x.booked(0, 3) + x.at(0, 4) + x.met(0, 1) + x.crowded(20) + x.leave(20) + x.late(0, 4, 4);
        sum += x.costs(0, 4, 4, 9) + x.vigil(0, 4, 4, 2) + x.rents(4, 4, 1) + x.warning(0, 4, 4) + x.fogs(0, 4, 7, 40);
        x.image();
        sum += x.sink(4, 4, false) + x.motions(1) + x.sound(4, true) + x.forget() + x.undo() + (x.restore() ? 1 : 0);
        return sum;
    }

    private static final int[] FED = fed();

    private static int[] fed() {
        int[] five = new int[(TEXT.length() + 19) / 20 * 5];
        for (int i = 0; i < five.length * 4; i++) {
            five[i / 4] = five[i / 4] << 8 | (i < TEXT.length() ? TEXT.charAt(i) : ' ');
        }
        return five;
    }

    private static void feedAgain(EbbIsland x) {
        for (int i = 0; i < FED.length; i += 5) {
            x.feed(FED[i], FED[i + 1], FED[i + 2], FED[i + 3], FED[i + 4]);
        }
        x.island(TEXT.length());
    }
}
