import java.lang.management.ManagementFactory;
import java.lang.reflect.Array;
import java.lang.reflect.Field;
import java.lang.reflect.Modifier;
import java.util.ArrayDeque;
import java.util.Collections;
import java.util.Deque;
import java.util.IdentityHashMap;
import java.util.Set;

/**
 * All calls of one run live in one room, so rows are made in the constructor and used again. Even if each of 512 calls
 * made a new object with all its images, there would be room.
 */
public final class RoomTest {
    private static final int CALLS = 512;
    private static final int MOST_OBJECTS = 600_000 / CALLS;
    private static final int MOST_ELEMENTS = 7_300_000 / CALLS;
    private static final int BYTES_OF_A_ROW_OF_EIGHT = 64;

    private static final String DAY = "shout 0 1;wait 9;say 1 3;walk 0 6;whisper 2 5;";
    private static final String LESSON = "gave 0 3;gave 1 5;lies 1;";
    private static final String SIGHT = "heard 5 3 1;not 0 3 1;";

    /** One call, by a number that may be an argument of it. */
    interface Call {
        long of(TwoEchoes x, int k);
    }

    public static void main(String[] args) throws Exception {
        anObjectIsSmall();
        asking();
        telling();
        Check.end("RoomTest");
    }

    private static void anObjectIsSmall() throws Exception {
        TwoEchoes x = told();
        for (int k = 0; k < 3; k++) {
            x.image(k);
        }
        long[] made = reachable(x);
        Check.due("objects and arrays: " + made[0], made[0] <= MOST_OBJECTS, true);
        Check.due("fields and elements: " + made[1], made[1] <= MOST_ELEMENTS, true);
        everyCall(x);
        long[] later = reachable(x);
        Check.due("objects and arrays behind all calls", later[0], made[0]);
        Check.due("fields and elements behind all calls", later[1], made[1]);
    }

    /** How many objects and arrays hang on one, and how many fields and elements these have. */
    private static long[] reachable(Object root) throws Exception {
        Set<Object> seen = Collections.newSetFromMap(new IdentityHashMap<>());
        Deque<Object> open = new ArrayDeque<>();
        open.add(root);
        seen.add(root);
        long elements = 0;
        while (!open.isEmpty()) {
            Object one = open.remove();
            if (one.getClass().isArray()) {
                int length = Array.getLength(one);
                elements += length;
                for (int k = 0; k < length && !one.getClass().getComponentType().isPrimitive(); k++) {
                    enter(Array.get(one, k), seen, open);
                }
                continue;
            }
            for (Field field : one.getClass().getDeclaredFields()) {
                if (Modifier.isStatic(field.getModifiers())) {
                    continue;
                }
                elements++;
                if (!field.getType().isPrimitive()) {
                    field.setAccessible(true);
                    enter(field.get(one), seen, open);
                }
            }
        }
        return new long[] {seen.size(), elements};
    }

    private static void enter(Object one, Set<Object> seen, Deque<Object> open) {
        if (one != null && seen.add(one)) {
            open.add(one);
        }
    }

    private static TwoEchoes told() {
        TwoEchoes x = Check.valley(Check.VALLEY);
        Check.due("DAY", Check.tell(x, 1, DAY), 0);
        Check.due("LESSON", Check.tell(x, 2, LESSON), 0);
        Check.due("SIGHT", Check.tell(x, 3, SIGHT), 0);
        return x;
    }

    /** What is asked makes nothing, but talk(), which makes a row of eight. */
    private static void asking() {
        makes("asking", RoomTest::ask, 0);
        makes("talk", (x, k) -> x.talk(0, k % 5 + 3), BYTES_OF_A_ROW_OF_EIGHT);
    }

    private static void telling() {
        makes("feed, end, text", RoomTest::tell, 0);
        makes("images made before", (x, k) -> (x.image(k % 2) ? 1 : 0) + (x.again(k % 2) ? 1 : 0), 0);
    }

    private static void everyCall(TwoEchoes x) {
        for (int k = 0; k < 30; k++) {
            tell(x, k);
            ask(x, k);
            x.talk(0, 3);
            x.image(k % 3);
            x.again(k % 3);
        }
    }

    /** The bytes that the machine counts for 100 calls, of which each may make so many. */
    private static void makes(String what, Call call, int bytesACall) {
        com.sun.management.ThreadMXBean bean =
            (com.sun.management.ThreadMXBean) ManagementFactory.getThreadMXBean();
        long id = Thread.currentThread().getId();
        TwoEchoes x = told();
        long least = Long.MAX_VALUE;
        for (int round = 0; round < 5; round++) {
            x.image(0);
            x.image(1);
            long before = bean.getThreadAllocatedBytes(id);
            for (int k = 0; k < 100; k++) {
                call.of(x, k);
            }
            least = Math.min(least, bean.getThreadAllocatedBytes(id) - before);
        }
        // A few bytes are the measuring's own.
        Check.due(what + " made " + least + " bytes by 100 calls", least <= 100L * bytesACall + 500, true);
    }

    private static long tell(TwoEchoes x, int k) {
        x.feed(0x77696465, 0x20313020, 0x20202020, 0x3b202020, 0x20202020);
        x.end(20);
        return x.text(k % 5, 0) + x.fault(0) + x.fault(1) + x.count(0);
    }

    private static long ask(TwoEchoes x, int k) {
        boolean odd = k % 2 == 1;
        int loud = k % 3;
        long sum = x.valley(0, k) + x.heard(0, 2, 1, loud, k, 5, loud) + x.gives(0, 1, k, 1) + x.deed(0, k % 5, 1);
        sum += x.stop(0, 0) + x.state(0, 0, k % 6, k % 50) + x.hush(0, k % 32, loud, k, odd);
        sum += x.crowd(0, loud, k, odd) + x.chain(0, 1, 2) + x.late(0, 3, 1) + x.market(0, k % 4);
        sum += x.bargain(0, 0, 1, odd) + x.lesson(0, k) + x.rules(0, k % 20) + x.fact(0, k % 3, 1);
        sum += x.said(0, 0, k - 1) + x.spot(0, 0, odd) + x.drawn(0, k, k % 61, k % 50) + x.rings(0, k % 3);
        sum += x.unsure(0, k % 7, odd) + x.spread(0, k % 5, loud, odd) + x.guards(0, loud) + x.middle(0, k % 4);
        sum += x.auction(0, 0, odd) + x.relayed(0, 0, k % 5, loud) + x.weather(0, k - 1) + x.matched(0, k % 5);
        return sum;
    }
}
