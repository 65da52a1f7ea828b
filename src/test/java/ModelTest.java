import java.lang.reflect.Method;
import java.lang.reflect.Modifier;
import java.util.ArrayList;
import java.util.Arrays;
import java.util.Comparator;
import java.util.List;
import java.util.Random;

/** Runs of 512 calls, told by a fixed seed, on the class and on the Model: every answer must be the same. */
public final class ModelTest {
    private static final int RUNS = 400;
    private static final int CALLS = 512;
    private static final int[] ODD = {
        Integer.MIN_VALUE, Integer.MIN_VALUE + 1, -1000000007, -101, -31, -30, -3, -2, -1, 13, 14, 29, 30, 31, 32,
        99, 100, 101, 126, 127, 199, 200, 201, 255, 256, 4095, 4096, 65536, 1000000007, Integer.MAX_VALUE - 1,
        Integer.MAX_VALUE};

    private final Random random;
    private final Method[] calls;
    private final NoughtSums sums = new NoughtSums();
    private final Model model = new Model();
    private final List<String> told = new ArrayList<>();

    private ModelTest(long seed) {
        random = new Random(seed);
        calls = Arrays.stream(NoughtSums.class.getDeclaredMethods())
                .filter(m -> Modifier.isPublic(m.getModifiers()))
                .sorted(Comparator.comparing(Method::getName)).toArray(Method[]::new);
    }

    public static void main(String[] args) throws Exception {
        int runs = args.length > 0 ? Integer.parseInt(args[0]) : RUNS;
        int wrong = 0;
        for (int run = 0; run < runs && wrong < 5; run++) {
            if (!new ModelTest(run).goes(run)) wrong++;
        }
        System.out.println(wrong == 0 ? runs + " runs answer as the model does" : wrong + " runs answer otherwise");
        if (wrong != 0) System.exit(1);
    }

    private boolean goes(int run) throws Exception {
        for (int i = 0; i < CALLS;) {
            if (random.nextInt(12) == 0) {
                for (String[] call : scene()) {
                    if (i++ >= CALLS) break;
                    if (!same(run, method(call[0]), numbers(call))) return false;
                }
            } else {
                Method method = calls[random.nextInt(calls.length)];
                i++;
                if (!same(run, method, arguments(method))) return false;
            }
        }
        return true;
    }

    private Method method(String name) {
        return Arrays.stream(calls).filter(m -> m.getName().equals(name)).findFirst().orElseThrow();
    }

    private static Object[] numbers(String[] call) {
        return Arrays.stream(call).skip(1).map(Integer::valueOf).toArray();
    }

    private boolean same(int run, Method method, Object[] arguments) throws Exception {
        long got = ((Number) method.invoke(sums, arguments)).longValue();
        Method other = Model.class.getDeclaredMethod(method.getName(), method.getParameterTypes());
        long want = ((Number) other.invoke(model, arguments)).longValue();
        told.add(method.getName() + Arrays.toString(arguments) + " = " + got);
        if (got == want) return true;
        System.out.println("run " + run + ": " + told.get(told.size() - 1) + ", due is " + want + ", behind "
                + told.subList(Math.max(0, told.size() - 40), told.size() - 1));
        return false;
    }

    private Object[] arguments(Method method) {
        Object[] arguments = new Object[method.getParameterCount()];
        for (int i = 0; i < arguments.length; i++) {
            if (method.getParameterTypes()[i] == long.class) {
                arguments[i] = random.nextInt(4) == 0 ? random.nextLong() : random.nextInt(3);
                arguments[i] = ((Number) arguments[i]).longValue();
            } else {
                arguments[i] = number(method.getName(), i);
            }
        }
        return arguments;
    }

    private int number(String name, int place) {
        if (random.nextInt(10) == 0) return ODD[random.nextInt(ODD.length)];
        int n = model.count(0);
        switch (name) {
            case "base": return random.nextBoolean() ? random.nextInt(13) : random.nextInt(34) - 1;
            case "filled": return place == 0 ? random.nextInt(1 << Math.min(n, 12)) : random.nextInt(4) - 1;
            case "possible": case "ways": case "hole": return random.nextInt(random.nextBoolean() ? 12 : 204) - 1;
            case "times": case "turn": return random.nextInt(120) - 10;
            case "listed": return random.nextInt(place == 0 ? 14 : 4) - (place == 0 ? 0 : 1);
            case "feed": return "0123456789:,x;".charAt(random.nextInt(14));
            case "spelled": return random.nextInt(40) - 2;
            case "plan": return place == 0 ? random.nextInt(5) : random.nextInt(12);
            case "list": case "put": case "get":
                return place == 0 ? random.nextInt(4) : random.nextInt(n + 3) - 2;
            case "layer": case "layers": case "raise":
                return place == 0 ? new int[] {2, 3, 5, 7, n}[random.nextInt(5)]
                        : place == 1 ? random.nextInt(4) - 1 : random.nextInt(n + 2) - 1;
            case "set": return place == 0 ? random.nextInt(n + 2) - 1 : random.nextInt(5);
            case "keep": case "lay": case "drop": case "lightest": case "pour": case "held": case "film":
                return random.nextInt(4) - (random.nextInt(4) == 0 ? 1 : 0);
            case "count": return random.nextInt(8) - 1;
            case "stays": case "parts": case "alike": return random.nextInt(4);
            default: return random.nextInt(n + 4) - 2;
        }
    }

    /** Calls that belong together, which single ones would seldom make. */
    private List<String[]> scene() {
        switch (random.nextInt(7)) {
            case 6: return tapeOf(twoOfThirty(), "read");
            case 0: return tapeOf(text(), "read");
            case 1: return tapeOf(spoiled(text()), "read");
            case 2: return tapeOf(noughtText(), "read");
            case 3: return alikeScene();
            case 4: return shelfScene();
            default: return List.of(new String[] {"take"}, new String[] {"pieces"}, new String[] {"parts", "2"},
                    new String[] {"part", "0"}, new String[] {"part", "1"}, new String[] {"primitive"});
        }
    }

    private List<String[]> tapeOf(String text, String last) {
        List<String[]> scene = new ArrayList<>();
        if (random.nextInt(3) > 0) scene.add(new String[] {"wipe"});
        for (char letter : text.toCharArray()) scene.add(new String[] {"feed", "" + (int) letter});
        scene.add(new String[] {last});
        scene.add(new String[] {"primitive"});
        scene.add(new String[] {"parts", "0"});
        scene.add(new String[] {"take"});
        scene.add(new String[] {"weight"});
        scene.add(new String[] {"best"});
        return scene;
    }

    private String text() {
        int n = random.nextInt(8) == 0 ? random.nextInt(40) : 2 + random.nextInt(29);
        StringBuilder text = new StringBuilder((random.nextInt(3) == 0 && n < 10 ? "0" : "") + n + ":");
        int items = random.nextInt(9);
        for (int i = 0; i < items; i++) {
            int root = random.nextInt(20) == 0 ? random.nextInt(100) : random.nextInt(Math.max(1, n));
            text.append(i > 0 ? "," : "").append(root);
            if (random.nextInt(3) == 0) text.append('x').append(1 + random.nextInt(random.nextInt(4) == 0 ? 9 : 3));
        }
        return text.toString();
    }

    private String spoiled(String text) {
        int at = random.nextInt(text.length() + 1);
        String letter = "" + "0123456789:,x xX-".charAt(random.nextInt(17));
        switch (random.nextInt(3)) {
            case 0: return text.substring(0, at);
            case 1: return text.substring(0, at) + letter + text.substring(at);
            default: return text.substring(0, at) + letter + (at < text.length() ? text.substring(at + 1) : "");
        }
    }

    /** Some whole stars of primes laid on one another, and at times one root too many. */
    private String noughtText() {
        int n = new int[] {2, 4, 6, 8, 9, 10, 12, 14, 15, 16, 18, 20, 21, 24, 28, 30}[random.nextInt(16)];
        List<String> items = new ArrayList<>();
        int stars = 1 + random.nextInt(4);
        for (int i = 0; i < stars; i++) {
            int p = n % 5 == 0 && random.nextBoolean() ? 5 : n % 3 == 0 && random.nextBoolean() ? 3
                    : n % 2 == 0 ? 2 : n % 3 == 0 ? 3 : 5;
            int from = random.nextInt(n);
            for (int j = 0; j < p; j++) items.add("" + (from + j * (n / p)) % n);
        }
        if (random.nextInt(3) == 0) items.add("" + random.nextInt(n));
        if (random.nextInt(3) == 0) items.remove(random.nextInt(items.size()));
        return n + ":" + String.join(",", items);
    }

    /** Two fives of N 30, each with a root or two put by two others: PARTS that are no stars, of like WEIGHT. */
    private String twoOfThirty() {
        boolean[] in = new boolean[30];
        for (int i = 0; i < 2; i++) {
            int from = random.nextInt(30);
            int put = 1 + random.nextInt(2);
            for (int j = 0; j < 5; j++) {
                int root = from + 6 * j;
                if (j < put) {
                    in[(root + 5) % 30] = true;
                    in[(root + 25) % 30] = true;
                } else {
                    in[root % 30] = true;
                }
            }
        }
        List<String> items = new ArrayList<>();
        for (int e = 0; e < 30; e++) {
            if (in[e]) items.add("" + e);
        }
        return "30:" + String.join(",", items);
    }

    private List<String[]> alikeScene() {
        String list = "" + random.nextInt(3);
        return List.of(new String[] {"film", list}, new String[] {"turn", "" + random.nextInt(40)},
                new String[] {"alike", list}, new String[] {"stays", "0"}, new String[] {"stays", "1"},
                new String[] {"best"});
    }

    private List<String[]> shelfScene() {
        String shelf = "" + random.nextInt(2);
        return List.of(new String[] {"keep", shelf}, new String[] {"add", "" + random.nextInt(3)},
                new String[] {"keep", shelf}, new String[] {"lightest", shelf}, new String[] {"lay", shelf, "0"},
                new String[] {"held", shelf, "1"});
    }
}
