import java.lang.management.ManagementFactory;
import java.lang.reflect.Array;
import java.lang.reflect.Field;
import java.lang.reflect.Modifier;
import java.util.Collections;
import java.util.IdentityHashMap;
import java.util.Set;

/**
 * The room that a run takes: what a new object holds, and that calls make nothing more. And the
 * bound that the packed words of the class stand on.
 */
public final class RoomTest {
    private static int wrong = 0;

    private static void must(boolean holds, String what) {
        if (!holds) {
            wrong++;
            System.out.println(what);
        }
    }

    public static void main(String[] args) throws Exception {
        newObject();
        calls();
        packedNumbers();
        bitRows();
        System.out.println(wrong == 0 ? "the room is kept" : wrong + " limits are not kept");
        if (wrong != 0) System.exit(1);
    }

    private static void newObject() {
        Set<Object> objects = Collections.newSetFromMap(new IdentityHashMap<>());
        NoughtSums x = new NoughtSums();
        long elements = measure(x, objects);
        System.out.println("a new object: " + objects.size() + " objects, " + elements + " fields and elements");
        must(objects.size() <= 200, "too many objects in a new one: " + objects.size());
        must(elements <= 5000, "too many fields and elements in a new one: " + elements);
    }

    private static long measure(Object object, Set<Object> seen) {
        if (object == null || !seen.add(object)) return 0;
        long elements = 0;
        if (object.getClass().isArray()) {
            elements += Array.getLength(object);
            if (!object.getClass().getComponentType().isPrimitive()) {
                for (int i = 0; i < Array.getLength(object); i++) elements += measure(Array.get(object, i), seen);
            }
            return elements;
        }
        for (Field field : object.getClass().getDeclaredFields()) {
            if (Modifier.isStatic(field.getModifiers())) continue;
            elements++;
            if (!field.getType().isPrimitive()) {
                field.setAccessible(true);
                try {
                    elements += measure(field.get(object), seen);
                } catch (IllegalAccessException e) {
                    throw new IllegalStateException(e);
                }
            }
        }
        return elements;
    }

    private static void calls() {
        com.sun.management.ThreadMXBean threads = (com.sun.management.ThreadMXBean) ManagementFactory.getThreadMXBean();
        NoughtSums x = new NoughtSums();
        long made = 0;
        long answers = 0;
        for (int round = 0; round < 20; round++) {
            long before = threads.getCurrentThreadAllocatedBytes();
            answers += all(x, round);
            made = threads.getCurrentThreadAllocatedBytes() - before;
        }
        must(answers != 0, "nothing was called");
        must(made <= 256, "calls make objects: " + made + " bytes in a round");
    }

    private static long all(NoughtSums x, int round) {
        long sum = x.base(12) + x.listed(2, 0) + x.filled(19, 1);
        sum += x.base(2 + round) + x.set(0, 2) + x.add(1) + x.of(0) + x.weight() + x.phi(0) + x.rest(0) + x.nought();
        sum += x.primitive() + x.parts(0) + x.part(0) + x.pieces() + x.take() + x.turn(3) + x.times(1) + x.mirror();
        sum += x.raise(2) + x.stays(0) + x.best() + x.film(0) + x.alike(0) + x.prime(0) + x.layer(2, 0, 0);
        sum += x.layers(2, 0) + x.possible(3) + x.ways(7) + x.hole(0) + x.plan(0, 1) + x.where(0) + x.run();
        sum += x.unplan() + x.keep(0) + x.keep(1) + x.lay(0, 0) + x.held(0, 0) + x.lightest(0) + x.pour(0, 1);
        sum += x.drop(1, 0) + x.drop(1, 0) + x.list(1, 4) + x.put(1, 0, 3L) + x.get(1, 0) + x.feed(54) + x.wipe();
        sum += x.feed(54) + x.feed(58) + x.read() + x.spelled(0) + x.image() + x.undo() + x.count(0) + x.clear();
        return sum;
    }

    /** Eight bits a number tell nought from all else only while no number of a REST reaches 256. */
    private static void packedNumbers() {
        long most = 0;
        for (int n = 2; n <= 30; n++) {
            long[] sums = new long[n];
            for (int e = 0; e < n; e++) {
                int[] one = new int[n];
                one[e] = 9;
                long[] left = Model.restOf(one);
                must(left.length <= 32, "more numbers than four words hold: N " + n);
                for (int i = 0; i < left.length; i++) sums[i] += Math.abs(left[i]);
            }
            for (long sum : sums) most = Math.max(most, sum);
        }
        System.out.println("the greatest number of a rest: " + most + " at most");
        must(most < 256, "a number of a rest may be too great: " + most);
    }

    private static void bitRows() {
        int most = 0;
        for (int n = 2; n <= 12; n++) {
            int rows = 0;
            for (int bits = 0; bits < 1 << n; bits++) {
                int[] counts = new int[n];
                for (int e = 0; e < n; e++) counts[e] = bits >> e & 1;
                if (Model.isNought(counts)) rows++;
            }
            most = Math.max(most, rows);
        }
        System.out.println("the most rows of bits that are nought: " + most);
        must(most == 100, "the class says 100 rows of bits, there are " + most);
    }
}
