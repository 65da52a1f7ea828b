import java.lang.reflect.Method;
import java.util.ArrayList;
import java.util.Arrays;
import java.util.Comparator;
import java.util.List;
import java.util.function.Consumer;
import java.util.function.ToLongFunction;

/**
 * What the tests of edges share. A test is a static method without parameters whose name begins
 * with p and the two figures of its promise; p00 stands for what the terms say of all calls.
 */
abstract class Edges {
    static final int NONE = -1, BAD = -2, STATE = -3, FULL = -4, NOT = -5, DEAR = -8, WRONG = -9;
    static final int MISSING = -11, PLACE = -13, BELOW = -14;
    static final long VOID = Long.MIN_VALUE;
    static final int LEAST = Integer.MIN_VALUE, MOST = Integer.MAX_VALUE;

    /** The document speaks of 512 calls of an object: no test may lean on more. */
    private static final int MOST_CALLS = 512;

    private static String current = "";
    private static int asked = 0;
    private static int wrong = 0;

    /** Runs the tests of a class, which must have one at least for each promise from first to last. */
    static void runAll(Class<?> tests, int first, int last) throws Exception {
        Method[] methods = Arrays.stream(tests.getDeclaredMethods())
                .filter(m -> m.getName().matches("p\\d\\d\\w+")).sorted(Comparator.comparing(Method::getName))
                .toArray(Method[]::new);
        boolean[] tested = new boolean[100];
        for (Method method : methods) {
            current = method.getName();
            tested[Integer.parseInt(current.substring(1, 3))] = true;
            int before = asked;
            method.setAccessible(true);
            method.invoke(null);
            if (asked == before) fail("it asks nothing");
        }
        for (int promise = first; promise <= last; promise++) {
            current = "promise " + promise;
            if (!tested[promise]) fail("there is no test");
        }
        System.out.println(wrong == 0 ? methods.length + " tests, " + asked + " answers are as due"
                : wrong + " answers are not as due");
        if (wrong != 0) System.exit(1);
    }

    private static void fail(String why) {
        wrong++;
        System.out.println(current + ": " + why);
    }

    static void due(String call, long got, long want) {
        asked++;
        if (got != want) fail(call + " answered " + got + ", due is " + want);
    }

    /** A new object with the row that a text tells. */
    static NoughtSums row(String text) {
        NoughtSums x = new NoughtSums();
        if (tell(x, text) < 0) throw new IllegalArgumentException(text);
        return x;
    }

    static void write(NoughtSums x, String text) {
        for (char letter : text.toCharArray()) x.feed(letter);
    }

    static int tell(NoughtSums x, String text) {
        x.wipe();
        write(x, text);
        return x.read();
    }

    static void stands(NoughtSums x, String text) {
        StringBuilder seen = new StringBuilder();
        int size = x.spelled(-1);
        for (int i = 0; i < size; i++) seen.append((char) x.spelled(i));
        asked++;
        if (!seen.toString().equals(text)) fail("the row is " + seen + ", due is " + text);
    }

    /** Something of each kind: a row, a plan, shelves, lists, a tape, and an image that is otherwise. */
    static void fillUp(NoughtSums x, String text) {
        tell(x, "9:0,4x2,8x3");
        x.plan(3, 3);
        x.keep(1);
        x.image();
        tell(x, "5:1,4x2");
        x.keep(0);
        tell(x, "4:");
        x.keep(0);
        tell(x, text);
        x.plan(0, 7);
        x.plan(1, 7);
        x.film(0);
        x.list(2, 3);
        x.put(2, 1, Long.MAX_VALUE);
        write(x, "8:1x4,6");
    }

    static NoughtSums filledUp(String text) {
        NoughtSums x = new NoughtSums();
        fillUp(x, text);
        return x;
    }

    /** The call answers as is due, and behind it all is as it is on an object without the call. */
    static void leaves(String text, String name, ToLongFunction<NoughtSums> call, long want) {
        leaves(x -> fillUp(x, text), name, call, want);
    }

    static void leaves(Consumer<NoughtSums> begin, String name, ToLongFunction<NoughtSums> call, long want) {
        NoughtSums x = new NoughtSums();
        NoughtSums twin = new NoughtSums();
        begin.accept(x);
        begin.accept(twin);
        due(name, call.applyAsLong(x), want);
        asked++;
        List<Long> seen = see(x);
        List<Long> without = see(twin);
        if (!seen.equals(without)) fail(name + " leaves " + seen + ", due is " + without);
        if (seen.size() > MOST_CALLS - 200) fail(name + " is looked at by too many calls: " + seen.size());
    }

    /** All that calls can tell of an object, which is of no use behind it: an answer for each call. */
    private static List<Long> see(NoughtSums x) {
        List<Long> seen = new ArrayList<>();
        for (int what = 1; what < 6; what++) seen.add((long) x.count(what));
        for (int list = 0; list < 3; list++) seeList(x, list, seen);
        seeImaged(x, seen);
        seen.add((long) x.read());
        seeRow(x, seen);
        int imaged = x.undo();
        seen.add((long) imaged);
        if (imaged != STATE) seeImaged(x, seen);
        return seen;
    }

    private static void seeList(NoughtSums x, int list, List<Long> seen) {
        for (int i = 0; i < 31; i++) seen.add(x.get(list, i));
        seen.add((long) x.put(list, 0, 1));
    }

    private static void seeRow(NoughtSums x, List<Long> seen) {
        int n = x.count(0);
        seen.add((long) n);
        for (int e = 0; e < n; e++) seen.add((long) x.of(e));
    }

    private static void seeImaged(NoughtSums x, List<Long> seen) {
        seeRow(x, seen);
        for (int shelf = 0; shelf < 2; shelf++) {
            int size = x.held(shelf, -1);
            seen.add((long) size);
            for (int k = 0; k < size; k++) {
                seen.add((long) x.lay(shelf, k));
                seeRow(x, seen);
            }
        }
        seen.add((long) x.base(29));
        for (int e = 0; e < 29; e += 7) seen.add((long) x.where(e));
        seen.add((long) x.base(30));
        for (int e = 0; e < 30; e += 7) seen.add((long) x.where(e));
        seen.add((long) x.unplan());
    }
}
