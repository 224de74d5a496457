import java.lang.reflect.Array;
import java.lang.reflect.Field;
import java.lang.reflect.Modifier;
import java.util.Collections;
import java.util.IdentityHashMap;
import java.util.Set;

/** All calls of one run live in one room: an object makes its rows once, and calls make none. */
public final class RoomTest {
    private final Set<Object> objects = Collections.newSetFromMap(new IdentityHashMap<>());
    private int places = 0;

    private RoomTest() {
    }

    public static void main(String[] args) throws IllegalAccessException {
        RustFamily x = Check.with(Check.FAMILY);
        RoomTest fresh = count(x);
        Check.due("objects of a new one, here " + fresh.objects.size(), fresh.objects.size() <= 150, true);
        Check.due("places of a new one, here " + fresh.places, fresh.places <= 4000, true);
        useAll(x);
        RoomTest used = count(x);
        Check.due("objects of a used one, here " + used.objects.size(), used.objects.size() <= 250, true);
        Check.due("places of a used one, here " + used.places, used.places <= 5000, true);
        long before = allocated();
        for (int i = 0; i < 10; i++) {
            useAll(x);
        }
        // The texts of this test itself are what is made here, and some of the machine's own.
        long each = (allocated() - before) / 10;
        Check.due("bytes that all calls together make, here " + each, each < 5000, true);
        Check.end("RoomTest");
    }

    private static long allocated() {
        return ((com.sun.management.ThreadMXBean) java.lang.management.ManagementFactory.getThreadMXBean())
            .getThreadAllocatedBytes(Thread.currentThread().getId());
    }

    private static void useAll(RustFamily x) {
        x.mark();
        x.mark();
        x.mark();
        Texts.years(x, "loop 9;any;year 1;end;");
        x.live(3);
        x.mean(3, 20);
        x.tray(0, 1, 60);
        x.tray(1, 1, 60);
        x.pour(0, 0, 1, 0, 60);
        x.copyRust(0);
        x.seen(1, 20);
        x.sure(0, 1, 20);
        x.ask(1, 0);
        x.keeping(15);
        x.keeps(15, 2);
        x.stable(15, 1);
        x.stables(15);
        x.game(0, 1, 4);
        x.moveOf(1, 3, 4);
        x.lasts(1, 6);
        x.thickFor(1, 6, 9);
        x.blame(0);
        x.worst(50);
        x.jarsFor(15, 8);
        x.less(0, 1, 50);
        x.firstThrough();
        x.throughBy(200);
        x.year(9);
        x.back();
        x.back();
        x.back();
    }

    private static RoomTest count(Object root) throws IllegalAccessException {
        RoomTest room = new RoomTest();
        room.visit(root);
        return room;
    }

    private void visit(Object o) throws IllegalAccessException {
        if (o == null || !objects.add(o)) {
            return;
        }
        if (o.getClass().isArray()) {
            places += Array.getLength(o);
            for (int i = 0; i < Array.getLength(o) && !o.getClass().getComponentType().isPrimitive(); i++) {
                visit(Array.get(o, i));
            }
            return;
        }
        for (Field f : o.getClass().getDeclaredFields()) {
            if (!Modifier.isStatic(f.getModifiers())) {
                places++;
                f.setAccessible(true);
                if (!f.getType().isPrimitive()) {
                    visit(f.get(o));
                }
            }
        }
    }
}
