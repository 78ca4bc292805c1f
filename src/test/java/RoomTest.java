import java.lang.management.ManagementFactory;
import java.lang.reflect.Array;
import java.lang.reflect.Field;
import java.lang.reflect.Modifier;
import java.util.IdentityHashMap;
import java.util.Map;

/** All calls of a run live in one room, and nothing leaves it: so calls make nothing new. */
public final class RoomTest {
    private static final Check check = new Check("RoomTest");
    private static final Map<Object, Object> seen = new IdentityHashMap<>();
    private static long elements;

    public static void main(String[] args) throws Exception {
        YawnRoute x = new YawnRoute();
        weigh(x);
        System.out.println("RoomTest: an object is " + seen.size() + " objects and arrays, " + elements
            + " fields and elements");
        check.holds("some objects", seen.size() < 150);
        check.holds("some fields and elements", elements < 15000);
        com.sun.management.ThreadMXBean threads = (com.sun.management.ThreadMXBean) ManagementFactory.getThreadMXBean();
        long id = Thread.currentThread().getId();
        int[] text = Check.fours("net;station;station dull 2;station kind 3;way 0 1;way 1 2 hours 3;way 2 0;way 0 2 odds 4;"
            + "at 0 size 5;takes:size>dull or not [kind=3];passes:if size<9 then size+1 else (size-dull)*2 end;");
        all(x, text);
        long ahead = threads.getThreadAllocatedBytes(id);
        for (int i = 0; i < 20; i++) {
            all(x, text);
        }
        long made = threads.getThreadAllocatedBytes(id) - ahead;
        System.out.println("RoomTest: 20 rounds of all calls made " + made + " bytes");
        check.holds("calls make nothing: " + made + " bytes", made < 2000);
        check.end();
    }

    private static void weigh(Object o) throws Exception {
        if (o == null || seen.put(o, o) != null) {
            return;
        }
        if (o.getClass().isArray()) {
            elements += Array.getLength(o);
            for (int i = 0; i < Array.getLength(o) && o instanceof Object[]; i++) {
                weigh(Array.get(o, i));
            }
            return;
        }
        for (Field f : o.getClass().getDeclaredFields()) {
            if (!Modifier.isStatic(f.getModifiers())) {
                elements++;
                f.setAccessible(true);
                if (!f.getType().isPrimitive()) {
                    weigh(f.get(o));
                }
            }
        }
    }

    private static void all(YawnRoute x, int[] text) {
        for (int i = 0; i < text.length; i += 5) {
            x.feed(text[i], text[i + 1], text[i + 2], text[i + 3], text[i + 4]);
        }
        x.net(text.length * 4 - 20);
        for (int i = 0; i < text.length; i += 5) {
            x.feed(text[i], text[i + 1], text[i + 2], text[i + 3], text[i + 4]);
        }
        x.net(text.length * 4);
        x.fault(0);
        x.station(0, 3);
        x.way(0, 1, 0);
        x.numbers(0, 2, 2);
        x.write(0, 0, 1);
        x.write(0, 1, 2);
        for (int s = 0; s < 3; s++) {
            x.brings(s);
            x.soonest(s, 3);
            x.soonBy(s, 3, 1);
            x.fewest(s, 3);
            x.fewBy(s, 3, 1);
            x.biggest(s);
            x.needed(s);
            x.sleepers(s, 1);
            x.spread(s, 9);
            x.meets(s, 0, 5);
            x.back(6, s, 7);
            x.backBy(6, s, 7, 2);
            x.surely(6, s, 7);
            x.dulls(0, s, 7);
            x.attempt(0, s, 7);
            x.forces(s);
            x.best(s);
            x.chance(s, 6, 0);
            x.lists(0, s);
            x.pass(s);
            x.off(0, 6);
            x.sleep(s);
            x.dull(s, 5);
        }
        x.reach();
        x.rounds();
        x.crowd();
        x.stopper();
        x.likeliest(6);
        x.judge(0, 0);
        x.perform(0);
        x.season(3, 40);
        x.image(0);
        x.image(1);
        x.restore(0);
        x.sleep(0);
        x.undo(1);
        x.count(3);
    }
}
