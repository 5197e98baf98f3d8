import java.lang.management.ManagementFactory;
import java.lang.reflect.Array;
import java.lang.reflect.Field;
import java.lang.reflect.Modifier;
import java.util.IdentityHashMap;
import java.util.Map;

/** How much room an object takes: what the constructor makes, and that no call makes anything more. */
public final class RoomTest {
    private static final int MOST_OBJECTS = 300;
    private static final int MOST_ELEMENTS = 8000;

    private int objects;
    private int elements;
    private final Map<Object, Object> seen = new IdentityHashMap<>();

    private RoomTest() {
    }

    public static void main(String[] args) throws IllegalAccessException {
        RoomTest room = new RoomTest();
        DeedCourt x = new DeedCourt();
        room.count(x);
        System.out.println("a new object: " + room.objects + " objects and arrays, " + room.elements + " fields and elements");
        boolean fine = room.objects <= MOST_OBJECTS && room.elements <= MOST_ELEMENTS;
        RoomTest anew = new RoomTest();
        for (int i = 0; i < 3; i++) {
            use(x);
        }
        anew.count(x);
        fine &= anew.objects == room.objects && anew.elements == room.elements;
        // Besides what is kept, nothing may be made for a while, either.
        com.sun.management.ThreadMXBean bean = (com.sun.management.ThreadMXBean) ManagementFactory.getThreadMXBean();
        long id = Thread.currentThread().getId();
        long least = Long.MAX_VALUE;
        for (int i = 0; i < 20; i++) {
            DeedCourt y = new DeedCourt();
            long ahead = bean.getThreadAllocatedBytes(id);
            use(y);
            least = Math.min(least, bean.getThreadAllocatedBytes(id) - ahead);
        }
        System.out.println("a run of calls makes " + least + " bytes");
        fine &= least == 0;
        if (!fine) {
            System.out.println("RoomTest: too much room is taken");
            System.exit(1);
        }
    }

    private void count(Object o) throws IllegalAccessException {
        if (o == null || o instanceof String || seen.put(o, o) != null) {
            return;
        }
        objects++;
        if (o.getClass().isArray()) {
            elements += Array.getLength(o);
            for (int i = 0; i < Array.getLength(o) && !o.getClass().getComponentType().isPrimitive(); i++) {
                count(Array.get(o, i));
            }
            return;
        }
        for (Field f : o.getClass().getDeclaredFields()) {
            if (!Modifier.isStatic(f.getModifiers())) {
                elements++;
                f.setAccessible(true);
                if (!f.getType().isPrimitive()) {
                    count(f.get(o));
                }
            }
        }
    }

    private static void say(DeedCourt x, String deed) {
        for (int i = 0; i < deed.length(); i++) {
            x.feed(deed.charAt(i), 1);
        }
        x.deed();
    }

    private static void use(DeedCourt x) {
        for (int f = 0; f < 4; f++) {
            x.field(f, 0);
        }
        x.part(3, 0);
        say(x, "0 old 1 or not 1");
        say(x, "0 edge or inside 1 year 0 weight 3");
        say(x, "2 north 1");
        say(x, "1 north 2 year 9");
        for (int s = 0; s < 8; s++) {
            x.row(s, s % 5, 64);
            x.set(s, 9, 1);
            x.copy(s, s, 0, 1, 60);
            x.ground(s % 4, s);
        }
        x.show(0, 0);
        x.says(0, 0);
        for (int year = 0; year < 10; year += 9) {
            x.shrink(year);
            x.known(0, 1, year);
            x.can(year);
            x.choose(year);
            x.many(year, 100);
            x.may(0, 1, year);
            x.must(0, 1, year);
            x.quarrel(year);
            x.doubt(year);
            x.word(1, year);
            x.settle(year);
            x.left(year);
            x.ring(0, year);
            x.rank(0, 0, year);
            x.lay(year);
            x.judge(year);
            x.begin(year);
            x.step(5);
            x.image();
        }
        x.laid(0, 1);
        x.lies(0, 1);
        x.right(0);
        x.whole(0, 6);
        x.draw(100);
        x.back();
        x.status(4);
    }
}
