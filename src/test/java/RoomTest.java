import java.lang.management.ManagementFactory;
import java.lang.reflect.Array;
import java.lang.reflect.Field;
import java.lang.reflect.Modifier;
import java.util.ArrayDeque;
import java.util.Collections;
import java.util.Deque;
import java.util.IdentityHashMap;
import java.util.Set;

/** All calls of a run live in one room: an object takes little, and no call takes more. */
final class RoomTest {
    private static final int MOST_OBJECTS = 100;
    private static final int MOST_ELEMENTS = 2500;
    private static final long MOST_BYTES = 10000;
    private static final Check CHECK = new Check("RoomTest");

    public static void main(String[] args) throws IllegalAccessException {
        sizeOfOne();
        callsTakeNone();
        CHECK.finish();
    }

    private static void sizeOfOne() throws IllegalAccessException {
        Set<Object> seen = Collections.newSetFromMap(new IdentityHashMap<>());
        Deque<Object> open = new ArrayDeque<>();
        open.add(new SleptBread());
        int elements = 0;
        while (!open.isEmpty()) {
            Object one = open.remove();
            if (!seen.add(one)) {
                continue;
            }
            if (one.getClass().isArray()) {
                elements += Array.getLength(one);
                for (int i = 0; i < Array.getLength(one) && one instanceof Object[]; i++) {
                    open.add(Array.get(one, i));
                }
                continue;
            }
            for (Field field : one.getClass().getDeclaredFields()) {
                if (!Modifier.isStatic(field.getModifiers())) {
                    elements++;
                    field.setAccessible(true);
                    if (!field.getType().isPrimitive()) {
                        open.add(field.get(one));
                    }
                }
            }
        }
        System.out.println("RoomTest: an object is " + seen.size() + " objects with " + elements + " elements");
        CHECK.holds("objects of one: " + seen.size(), seen.size() <= MOST_OBJECTS);
        CHECK.holds("elements of one: " + elements, elements <= MOST_ELEMENTS);
    }

    private static void callsTakeNone() {
        com.sun.management.ThreadMXBean threads = (com.sun.management.ThreadMXBean) ManagementFactory.getThreadMXBean();
        String text = "d5 1;s1,2,3,4,5;s5,4,3,2,1;s0,1,0,1,0;s9,0,0,0,1;s1,1,1,1,1;s0,0,2,0,0;"
            + "l0 0 99;l1 1 98;l2 2 97;l3 3 96;l4 4 95;l5 0 94;l0 1 93;n1;";
        SleptBread bread = new SleptBread();
        int[] letters = text.chars().toArray();
        allCalls(bread, letters);
        long before = threads.getCurrentThreadAllocatedBytes();
        for (int i = 0; i < 50; i++) {
            allCalls(bread, letters);
        }
        long taken = threads.getCurrentThreadAllocatedBytes() - before;
        CHECK.holds("bytes taken by calls: " + taken, taken < MOST_BYTES);
    }

    private static int allCalls(SleptBread b, int[] letters) {
        int sum = 0;
        for (int i = 0; i < letters.length; i++) {
            sum += b.feed(letters[i]);
        }
        sum += b.street() + b.fault() + b.told(9) + b.weight(0, 0) + b.odds(0, 0, 0) + b.likeliest(0) + b.loaf(0, 0);
        sum += b.worth(0, 1) + b.lay(0, 1) + b.lay(1, 2) + b.takeOff(1) + b.wake(3, true) + b.bread(1) + b.night(2);
        sum += b.salt(0) + b.crumbs(-1) + b.crumbs(0) + b.eat(0) + b.beds(-1) + b.beds(2) + b.feedings(0, 0);
        sum += b.foretold(0, -1, 200) + b.settled() + b.awake(200, 0) + b.bite(0) + b.mayBe() + b.whose();
        sum += b.howLikely(0) + b.hire(0, 0) + b.write(0, 0, 0) + b.judge() + b.tear() + b.seed(5) + b.keep(0);
        return sum + b.goBack(0);
    }
}
