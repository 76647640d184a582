import com.sun.management.ThreadMXBean;
import java.lang.management.ManagementFactory;
import java.lang.reflect.Array;
import java.lang.reflect.Field;
import java.lang.reflect.Modifier;
import java.util.ArrayDeque;
import java.util.Collections;
import java.util.IdentityHashMap;
import java.util.NoSuchElementException;
import java.util.Set;

/** What an object takes of the room that all calls of a run share: rows made once, and nothing by a call. */
public final class RoomTest {
    private static final String GROUP = "replicas 5;keys 4;command a put key 0 value 9 at 0;"
            + "command b add key 0 value 8 at 1;command c get key 1 value 0 at 2;command d wipe key 2 value 1 at 3;"
            + "command e add key 3 value 2 at 4;command f put key 1 value 7 at 0;command g get key 0 value 3 at 1;"
            + "command h add key 0 value 6 at 2;clashes not (low + 1 < high) and apart = 1 or same * 2;";
    private static final String WORK = "propose a;ask a 1;ask a 2;ask a 3;decide a;tell a 1;run 1;down 0;clean;"
            + "recover b 2;accept b 3;accept b 4;settle b;run 2;up 0;";

    // The room is one for a run of 512 calls on one object: 600,000 objects, 7,300,000 fields and elements.
    private static final int OBJECTS = 1_000;
    private static final int PLACES = 40_000;
    private static final int CALLS = 512;

    // What the machine itself may note down while the calls are made; one object a call would be more.
    private static final long SLACK = 4_096;

    private RoomTest() { }

    public static void main(String[] args) {
        keptRoom();
        callsMakeNothing();
        Check.end("RoomTest");
    }

    private static void keptRoom() {
        LeaderlessOrder x = new LeaderlessOrder();
        Set<Object> made = reached(x);
        Check.due("objects and arrays: " + made.size(), made.size() <= OBJECTS, true);
        long places = places(made);
        Check.due("fields and elements: " + places, places <= PLACES, true);
        allKindsOfCalls(x);
        Set<Object> later = reached(x);
        later.removeIf(made::contains);
        Check.due("objects that were made and kept by calls", later.size(), 0);
    }

    private static void callsMakeNothing() {
        ThreadMXBean meter = (ThreadMXBean) ManagementFactory.getThreadMXBean();
        if (!meter.isThreadAllocatedMemorySupported() || !meter.isThreadAllocatedMemoryEnabled()) {
            return;
        }
        long id = Thread.currentThread().getId();
        long least = Long.MAX_VALUE;
        // The first rounds load classes; the least of all is what the calls themselves take.
        for (int round = 0; round < 5; round++) {
            LeaderlessOrder x = new LeaderlessOrder();
            long[] group = packed(GROUP);
            long[] work = packed(WORK);
            long old = meter.getThreadAllocatedBytes(id);
            manyCalls(x, group, work);
            least = Math.min(least, meter.getThreadAllocatedBytes(id) - old);
        }
        Check.due("bytes made by " + CALLS + " calls: " + least, least <= SLACK, true);
    }

    private static void allKindsOfCalls(LeaderlessOrder x) {
        manyCalls(x, packed(GROUP), packed(WORK));
        try {
            x.order(0, 8);
            Check.due("order(0, 8) throws", false, true);
        } catch (NoSuchElementException e) {
            Check.due("order(0, 8) throws", true, true);
        }
    }

    private static long[] packed(String text) {
        long[] longs = new long[(text.length() + 23) / 24 * 3];
        for (int i = 0; i < longs.length; i++) {
            longs[i] = Check.eight(text, 8 * i);
        }
        return longs;
    }

    private static int fed(LeaderlessOrder x, long[] longs) {
        int calls = 0;
        for (int i = 0; i < longs.length; i += 3) {
            x.feed(longs[i], longs[i + 1], longs[i + 2]);
            calls++;
        }
        return calls;
    }

    private static void manyCalls(LeaderlessOrder x, long[] group, long[] work) {
        int calls = fed(x, group) + 1;
        boolean isRead = x.group() == 0;
        calls += fed(x, work) + 1;
        isRead &= x.work() == 0;
        if (!isRead) {
            Check.due("the texts are read", isRead, true);
        }
        for (int i = 0; calls < CALLS; i++, calls++) {
            call(x, i % 44, i * 7 % 8, i * 3 % 5);
        }
    }

    /** One call of any kind but order, whose exception is an object by itself. */
    private static int call(LeaderlessOrder x, int which, int c, int r) {
        return which < 22 ? step(x, which, c, r) : question(x, which - 22, c, r);
    }

    private static int step(LeaderlessOrder x, int which, int c, int r) {
        switch (which) {
            case 0: return x.propose(c);
            case 1: return x.ask(c, r);
            case 2: return x.decide(c);
            case 3: return x.accept(c, r);
            case 4: return x.settle(c) ? 1 : 0;
            case 5: return x.tell(c, r) ? 1 : 0;
            case 6: return x.down(r) ? 1 : 0;
            case 7: return x.up(r) ? 1 : 0;
            case 8: return x.recover(c, r);
            case 9: return x.run(r);
            case 10: return x.clean();
            case 11: return x.undo() ? 1 : 0;
            case 12: return x.see(c, r, c > r) ? 1 : 0;
            case 13: return x.mark(r, c < 4) ? 1 : 0;
            case 14: return x.judged(r);
            case 15: return x.command(c, r);
            case 16: return x.known(r, c, r);
            case 17: return x.replica(r, r);
            case 18: return x.value(r, c);
            case 19: return x.got(r, c);
            case 20: return x.clash(c, r) ? 1 : 0;
            default: return x.count(c);
        }
    }

    private static int question(LeaderlessOrder x, int which, int c, int r) {
        switch (which) {
            case 0: return x.lone();
            case 1: return x.heap(c);
            case 2: return x.union(c, r);
            case 3: return x.quick(c) ? 1 : 0;
            case 4: return x.waits(r);
            case 5: return x.ready(r);
            case 6: return x.plan(r, c);
            case 7: return x.part(r, c);
            case 8: return x.one(c) ? 1 : 0;
            case 9: return x.agree(r, c) ? 1 : 0;
            case 10: return x.before(r, c, r) ? 1 : 0;
            case 11: return x.bare(r);
            case 12: return x.level(r);
            case 13: return x.stuck();
            case 14: return x.finds(c, r);
            case 15: return x.risk(c);
            case 16: return x.who();
            case 17: return x.look();
            case 18: return x.drives(c, 99, r);
            case 19: return x.feed(c, r, 32);
            case 20: return x.work();
            default: return x.propose(c);
        }
    }

    /** All objects and arrays that an object holds, it, too; constants of an enum are of no object. */
    private static Set<Object> reached(Object from) {
        Set<Object> found = Collections.newSetFromMap(new IdentityHashMap<>());
        ArrayDeque<Object> open = new ArrayDeque<>();
        open.add(from);
        while (!open.isEmpty()) {
            Object it = open.remove();
            if (!(it instanceof Enum) && found.add(it)) {
                holds(it, open);
            }
        }
        return found;
    }

    private static void holds(Object it, ArrayDeque<Object> open) {
        Class<?> type = it.getClass();
        if (type.isArray()) {
            for (int i = 0; i < Array.getLength(it) && !type.getComponentType().isPrimitive(); i++) {
                hold(Array.get(it, i), open);
            }
            return;
        }
        for (Field f : type.getDeclaredFields()) {
            if (!Modifier.isStatic(f.getModifiers()) && !f.getType().isPrimitive()) {
                hold(valueOf(f, it), open);
            }
        }
    }

    private static void hold(Object it, ArrayDeque<Object> open) {
        Check.due("a place of a row without an object", it == null, false);
        if (it != null) {
            open.add(it);
        }
    }

    private static Object valueOf(Field f, Object it) {
        try {
            f.setAccessible(true);
            return f.get(it);
        } catch (IllegalAccessException e) {
            return null;
        }
    }

    private static long places(Set<Object> objects) {
        long sum = 0;
        for (Object it : objects) {
            if (it.getClass().isArray()) {
                sum += Array.getLength(it);
            } else {
                for (Field f : it.getClass().getDeclaredFields()) {
                    sum += Modifier.isStatic(f.getModifiers()) ? 0 : 1;
                }
            }
        }
        return sum;
    }
}
