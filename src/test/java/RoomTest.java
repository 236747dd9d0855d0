import java.io.IOException;
import java.lang.management.ManagementFactory;
import java.lang.reflect.Array;
import java.lang.reflect.Field;
import java.lang.reflect.Modifier;
import java.util.ArrayDeque;
import java.util.Collections;
import java.util.Deque;
import java.util.IdentityHashMap;
import java.util.Set;

/** "All calls of one run live in ONE room": what an object holds when it is made, and that no call makes another. */
public final class RoomTest {
    private static final Due DUE = new Due("RoomTest");
    private static final int MOST_OBJECTS = 600000, MOST_FIELDS = 7300000, CALLS = 512;

    public static void main(String[] args) throws IOException, IllegalAccessException {
        made();
        calls();
        DUE.end();
    }

    /** Even if each of a run's calls were on an object of its own, there would be room for all. */
    private static void made() throws IllegalAccessException {
        DUE.sentence("rule 12: what a run makes is counted");
        Set<Object> seen = Collections.newSetFromMap(new IdentityHashMap<>());
        Deque<Object> left = new ArrayDeque<>();
        left.add(new AlikeArrows());
        long fields = 0;
        while (!left.isEmpty()) {
            Object one = left.pop();
            if (!seen.add(one)) continue;
            fields += one.getClass().isArray() ? parts(one, left) : fields(one, left);
        }
        DUE.is("objects and arrays: " + seen.size(), seen.size() * CALLS < MOST_OBJECTS ? 1 : 0, 1);
        DUE.is("fields and elements: " + fields, fields * CALLS < MOST_FIELDS ? 1 : 0, 1);
    }

    private static long parts(Object row, Deque<Object> left) {
        int length = Array.getLength(row);
        if (!row.getClass().getComponentType().isPrimitive()) {
            for (Object part : (Object[]) row) {
                if (part != null) left.add(part);
            }
        }
        return length;
    }

    private static long fields(Object one, Deque<Object> left) throws IllegalAccessException {
        long many = 0;
        for (Field f : one.getClass().getDeclaredFields()) {
            if (Modifier.isStatic(f.getModifiers())) continue;
            many++;
            f.setAccessible(true);
            if (!f.getType().isPrimitive() && f.get(one) != null) left.add(f.get(one));
        }
        return many;
    }

    private static void calls() {
        DUE.sentence("no call makes an object");
        com.sun.management.ThreadMXBean room = (com.sun.management.ThreadMXBean) ManagementFactory.getThreadMXBean();
        long me = Thread.currentThread().getId();
        long least = Long.MAX_VALUE, sum = 0;
        // The machine makes things of its own at times: what the calls make is in each of the rounds.
        for (int round = 0; round < 40; round++) {
            AlikeArrows x = Due.told(longText());
            long before = room.getThreadAllocatedBytes(me), between = room.getThreadAllocatedBytes(me);
            sum += every(x);
            long after = room.getThreadAllocatedBytes(me);
            least = Math.min(least, after - between - (between - before));
        }
        DUE.is("the least bytes that a round of calls took", Math.max(0, least), 0);
        DUE.is("all were called", sum == 0 ? 0 : 1, 1);
    }

    private static String longText() {
        return "stick 100 300 50 46 0 3;".repeat(12) + "bow 42 3;".repeat(3) + "archer left 5 3;".repeat(3);
    }

    private static long every(AlikeArrows x) {
        long sum = x.type(0x626f772034322033L, 8) + x.type(';', 1) + x.count(4);
        for (int what = 0; what <= 6; what++) sum += x.stick(0, what) + x.bow(0, what) + x.archer(0, what) + x.tune(what, 1) + x.count(what);
        for (int i = 0; i < 12; i++) {
            sum += x.cut(i) + x.scrape(i) + x.load(i) + x.turn(i) + x.least(i, 0, 200, 800, 0) + x.wreck(i, 3, 0);
            sum += x.flight(i, 0, i) + x.feather(i, 0, 40) + x.rate(i, i) + x.shoot(i, 0, 0) + x.shot(i, 3);
        }
        sum += x.band(0, 100, 0, 0) + x.says(6, 5, 0) + x.alike(0, 4, 5, 0) + x.turned(0, 4, 5) + x.warm(0, 4, 0);
        for (int i = 0; i < 60; i++) sum += x.shoot(i % 12, i % 3, i % 3);
        sum += x.parted() + x.spread(0) + x.out(0, 1) + x.keep(0) + x.keep(1) + x.wipe() + x.back(0) + x.lot(7);
        return sum + x.arrows() + x.clear() + x.trace();
    }
}
