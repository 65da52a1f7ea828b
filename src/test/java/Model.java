import java.util.ArrayList;
import java.util.Arrays;
import java.util.HashMap;
import java.util.List;
import java.util.Map;
import java.util.TreeMap;
import java.util.regex.Matcher;
import java.util.regex.Pattern;

/**
 * The document once more, word by word and as slow as it likes, with other means than the class
 * uses: ModelTest holds the two against each other.
 */
final class Model {
    private static final long VOID = Long.MIN_VALUE;
    private static final Pattern TEXT =
            Pattern.compile("([0-9]{1,2}):([0-9]{1,2}(x[1-9])?(,[0-9]{1,2}(x[1-9])?)*)?");
    private static final Map<Integer, long[]> PHIS = new HashMap<>();
    private static final Map<Integer, Map<Integer, List<Integer>>> LISTED = new HashMap<>();

    /** A row is its N and its COUNTS: as long as N. */
    private int[] row = new int[6];
    private List<int[]> plan = new ArrayList<>();
    private List<List<int[]>> shelves = emptyShelves();
    private final long[][] lists = new long[3][];
    private StringBuilder tape = new StringBuilder();
    private int[] imageRow;
    private List<int[]> imagePlan;
    private List<List<int[]>> imageShelves;

    private static List<List<int[]>> emptyShelves() {
        return new ArrayList<>(List.of(new ArrayList<>(), new ArrayList<>()));
    }

    // ---- the row

    int base(int n) {
        if (n < 2 || n > 30) return -2;
        int was = row.length;
        row = new int[n];
        return was;
    }

    int set(int e, int c) {
        if (isNoRoot(e)) return -1;
        if (c < 0 || c > 9) return -2;
        int was = row[e];
        row[e] = c;
        return was;
    }

    int add(int e) {
        if (isNoRoot(e)) return -1;
        return row[e] == 9 ? -4 : ++row[e];
    }

    int of(int e) {
        return isNoRoot(e) ? -1 : row[e];
    }

    int weight() {
        return Arrays.stream(row).sum();
    }

    int clear() {
        int was = weight();
        row = new int[row.length];
        return was;
    }

    private boolean isNoRoot(int e) {
        return e < 0 || e >= row.length;
    }

    // ---- nought

    /** As the document says it: x to the N-th less 1, divided by PHI of each divisor but N. */
    static long[] phiOf(int n) {
        long[] known = PHIS.get(n);
        if (known != null) return known;
        long[] poly = new long[n + 1];
        poly[n] = 1;
        poly[0] = -1;
        for (int d = 1; d < n; d++) {
            if (n % d == 0) poly = quotient(poly, phiOf(d));
        }
        PHIS.put(n, poly);
        return poly;
    }

    private static long[] quotient(long[] poly, long[] by) {
        long[] left = poly.clone();
        int degree = by.length - 1;
        long[] result = new long[poly.length - degree];
        for (int i = result.length - 1; i >= 0; i--) {
            result[i] = left[i + degree];
            for (int k = 0; k <= degree; k++) left[i + k] -= result[i] * by[k];
        }
        for (long number : left) {
            if (number != 0) throw new IllegalStateException("a division of PHI does not come out");
        }
        return result;
    }

    static long[] restOf(int[] counts) {
        long[] by = phiOf(counts.length);
        int degree = by.length - 1;
        long[] left = new long[Math.max(counts.length, degree)];
        for (int e = 0; e < counts.length; e++) left[e] = counts[e];
        for (int top = left.length - 1; top >= degree; top--) {
            long often = left[top];
            for (int k = 0; k <= degree; k++) left[top - degree + k] -= often * by[k];
        }
        return Arrays.copyOf(left, degree);
    }

    static boolean isNought(int[] counts) {
        boolean exact = Arrays.stream(restOf(counts)).allMatch(number -> number == 0);
        double re = 0;
        double im = 0;
        for (int e = 0; e < counts.length; e++) {
            re += counts[e] * Math.cos(2 * Math.PI * e / counts.length);
            im += counts[e] * Math.sin(2 * Math.PI * e / counts.length);
        }
        if (exact != Math.hypot(re, im) < 1e-9) throw new IllegalStateException("rest and complex sum differ");
        return exact;
    }

    long phi(int i) {
        long[] poly = phiOf(row.length);
        if (i == -1) return poly.length - 1;
        return i < 0 || i >= poly.length ? VOID : poly[i];
    }

    long rest(int i) {
        long[] left = restOf(row);
        return i < 0 || i >= left.length ? VOID : left[i];
    }

    int nought() {
        return isNought(row) ? 1 : 0;
    }

    private boolean isDear() {
        double product = 1;
        for (int c : row) product *= c + 1;
        return product > 20000;
    }

    /** Most of ROOT 0 first, then of ROOT 1, and so on; nought or not told by a running rest. */
    private static void collect(int[] counts, int e, int[] part, long[] left, long[][] alone, List<int[]> into) {
        if (e == counts.length) {
            for (long number : left) {
                if (number != 0) return;
            }
            if (Arrays.stream(part).sum() > 0) into.add(part.clone());
            return;
        }
        for (int c = counts[e]; c >= 0; c--) {
            part[e] = c;
            for (int i = 0; i < left.length; i++) left[i] += c * alone[e][i];
            collect(counts, e + 1, part, left, alone, into);
            for (int i = 0; i < left.length; i++) left[i] -= c * alone[e][i];
        }
        part[e] = 0;
    }

    private static List<int[]> noughtParts(int[] counts) {
        long[][] alone = new long[counts.length][];
        for (int e = 0; e < counts.length; e++) {
            int[] one = new int[counts.length];
            one[e] = 1;
            alone[e] = restOf(one);
        }
        List<int[]> found = new ArrayList<>();
        collect(counts, 0, new int[counts.length], new long[alone[0].length], alone, found);
        return found;
    }

    /** null: there is none. */
    private static int[] firstPart(int[] counts) {
        int[] first = null;
        for (int[] part : noughtParts(counts)) {
            if (first == null || Arrays.stream(part).sum() < Arrays.stream(first).sum()) first = part;
        }
        return first;
    }

    int primitive() {
        if (isDear()) return -8;
        if (weight() == 0 || !isNought(row)) return 0;
        for (int[] part : noughtParts(row)) {
            if (!Arrays.equals(part, row)) return 0;
        }
        return 1;
    }

    int parts(int what) {
        if (what < 0 || what > 2) return -1;
        if (isDear()) return -8;
        TreeMap<Integer, Integer> byWeight = new TreeMap<>();
        for (int[] part : noughtParts(row)) byWeight.merge(Arrays.stream(part).sum(), 1, Integer::sum);
        if (what == 0) return byWeight.values().stream().mapToInt(Integer::intValue).sum();
        if (byWeight.isEmpty()) return what == 1 ? -5 : 0;
        return what == 1 ? byWeight.firstKey() : byWeight.firstEntry().getValue();
    }

    int part(int e) {
        if (isNoRoot(e)) return -1;
        if (isDear()) return -8;
        int[] first = firstPart(row);
        return first == null ? -5 : first[e];
    }

    int take() {
        if (isDear()) return -8;
        int[] first = firstPart(row);
        if (first == null) return -5;
        for (int e = 0; e < row.length; e++) row[e] -= first[e];
        return Arrays.stream(first).sum();
    }

    int pieces() {
        if (isDear()) return -8;
        int[] before = row.clone();
        int often = 0;
        while (take() > 0) often++;
        row = before;
        return often;
    }

    // ---- changes

    private static int gcd(int a, int b) {
        return b == 0 ? a : gcd(b, a % b);
    }

    private static List<Integer> primes(int n) {
        List<Integer> all = new ArrayList<>();
        for (int p : new int[] {2, 3, 5, 7, 11, 13, 17, 19, 23, 29}) {
            if (n % p == 0) all.add(p);
        }
        return all;
    }

    private static int[] turned(int[] counts, long k) {
        int n = counts.length;
        int[] to = new int[n];
        for (int e = 0; e < n; e++) to[(int) ((((e + k) % n) + n) % n)] = counts[e];
        return to;
    }

    private static int[] multiplied(int[] counts, int by) {
        int[] to = new int[counts.length];
        for (int e = 0; e < counts.length; e++) to[e * by % counts.length] += counts[e];
        return to;
    }

    private static int[] mirrored(int[] counts) {
        int[] to = counts.clone();
        for (int e = 1; e < counts.length; e++) to[e] = counts[counts.length - e];
        return to;
    }

    int turn(int k) {
        row = turned(row, k);
        return row[0];
    }

    int times(int u) {
        if (u < 1 || u > 99) return -2;
        if (gcd(u, row.length) != 1) return -3;
        row = multiplied(row, u);
        return row[0];
    }

    int mirror() {
        row = mirrored(row);
        return row[0];
    }

    int raise(int p) {
        if (!primes(row.length).contains(p)) return -1;
        int[] to = multiplied(row, p);
        if (Arrays.stream(to).max().getAsInt() > 9) return -4;
        row = to;
        return row[0];
    }

    int stays(int what) {
        if (what != 0 && what != 1) return -1;
        List<Integer> by = new ArrayList<>();
        for (int k = 1; k <= row.length; k++) {
            if (Arrays.equals(turned(row, k), row)) by.add(k);
        }
        return what == 0 ? by.size() : by.get(0);
    }

    int best() {
        int best = 0;
        for (int k = 1; k < row.length; k++) {
            if (Arrays.compare(turned(row, k), turned(row, best)) > 0) best = k;
        }
        return best;
    }

    int alike(int list) {
        if (list < 0 || list > 2) return -1;
        if (lists[list] == null) return -11;
        for (int k = 0; k < row.length; k++) {
            if (Arrays.equals(Arrays.stream(turned(row, k)).asLongStream().toArray(), lists[list])) return k;
        }
        return -5;
    }

    // ---- primes, weights

    int prime(int i) {
        List<Integer> all = primes(row.length);
        if (i == -1) return all.size();
        return i < 0 || i >= all.size() ? -1 : all.get(i);
    }

    private int[] layerOf(int p, int j) {
        int n = row.length;
        int[] made = new int[n];
        int t = 0;
        for (int i = 1; i <= n; i++) {
            if (i % p == 1 && i % (n / p) == 0) t = i;
        }
        for (int e = 0; e < n; e++) {
            if (e % p == j) {
                int to = n % (p * p) == 0 ? e - j : Math.floorMod(e - j * t, n);
                made[to] = row[e];
            }
        }
        return made;
    }

    int layer(int p, int j, int e) {
        if (!primes(row.length).contains(p) || j < 0 || j >= p || isNoRoot(e)) return -1;
        return layerOf(p, j)[e];
    }

    int layers(int p, int what) {
        if (!primes(row.length).contains(p) || (what != 0 && what != 1)) return -1;
        int odd = -5;
        for (int j = p - 1; j >= 0; j--) {
            boolean square = row.length % (p * p) == 0;
            long[] due = square ? new long[phiOf(row.length).length - 1] : restOf(layerOf(p, 0));
            if (!Arrays.equals(restOf(layerOf(p, j)), due)) odd = j;
        }
        if ((odd == -5) != isNought(row)) throw new IllegalStateException("layers and rest differ");
        return what == 1 ? odd : odd == -5 ? 1 : 0;
    }

    private static int waysTo(List<Integer> primes, int from, int w) {
        if (from == primes.size()) return w == 0 ? 1 : 0;
        int ways = 0;
        for (int left = w; left >= 0; left -= primes.get(from)) ways += waysTo(primes, from + 1, left);
        return ways;
    }

    int possible(int w) {
        int ways = ways(w);
        return Math.min(ways, 1);
    }

    int ways(int w) {
        return w < 0 || w > 200 ? -2 : waysTo(primes(row.length), 0, w);
    }

    int hole(int k) {
        if (k < 0) return -1;
        int before = 0;
        for (int w = 1; w <= 200; w++) {
            if (possible(w) == 0 && before++ == k) return w;
        }
        return -5;
    }

    // ---- listed, filled

    private static int[] unpacked(int n, int bits) {
        int[] counts = new int[n];
        for (int e = 0; e < n; e++) counts[e] = bits >> e & 1;
        return counts;
    }

    private static int packed(int[] counts) {
        int bits = 0;
        for (int e = 0; e < counts.length; e++) bits |= counts[e] << e;
        return bits;
    }

    private static Map<Integer, List<Integer>> listedOf(int n) {
        Map<Integer, List<Integer>> known = LISTED.get(n);
        if (known != null) return known;
        Map<Integer, List<Integer>> byWeight = new HashMap<>();
        for (int bits = 1; bits < 1 << n; bits++) {
            int[] counts = unpacked(n, bits);
            boolean listed = isNought(counts) && noughtParts(counts).size() == 1;
            for (int k = 1; k < n && listed; k++) listed = packed(turned(counts, k)) >= bits;
            if (listed) byWeight.computeIfAbsent(Integer.bitCount(bits), w -> new ArrayList<>()).add(bits);
        }
        LISTED.put(n, byWeight);
        return byWeight;
    }

    int listed(int w, int k) {
        if (w < 1 || w > 12) return -2;
        if (row.length > 12) return -3;
        List<Integer> all = listedOf(row.length).getOrDefault(w, List.of());
        if (k == -1) return all.size();
        return k < 0 || k >= all.size() ? -1 : all.get(k);
    }

    int filled(int set, int what) {
        int n = row.length;
        if (n > 12) return -3;
        if (set < 0 || set >= 1 << n) return -2;
        if (what != 0 && what != 1) return -1;
        for (int w = 0; w <= n; w++) {
            for (int bits = 0; bits < 1 << n; bits++) {
                if (Integer.bitCount(bits) == w && (bits | set) == bits && isNought(unpacked(n, bits))) {
                    return what == 0 ? w : bits;
                }
            }
        }
        throw new IllegalStateException("nothing fills the set");
    }

    // ---- plans, shelves

    int plan(int what, int v) {
        if (what < 0 || what > 3) return -1;
        if (plan.size() == 8) return -4;
        plan.add(new int[] {what, v});
        return plan.size();
    }

    int unplan() {
        int was = plan.size();
        plan = new ArrayList<>();
        return was;
    }

    private static boolean can(int n, int what, int v) {
        if (what == 1) return v >= 1 && v <= 99 && gcd(v, n) == 1;
        return what != 3 || primes(n).contains(v);
    }

    private static int[] changed(int[] counts, int what, int v) {
        if (what == 0) return turned(counts, v);
        return what == 2 ? mirrored(counts) : multiplied(counts, v);
    }

    int where(int e) {
        if (isNoRoot(e)) return -1;
        int[] one = new int[row.length];
        one[e] = 1;
        for (int[] change : plan) {
            if (can(row.length, change[0], change[1])) one = changed(one, change[0], change[1]);
        }
        for (int to = 0; to < one.length; to++) {
            if (one[to] == 1) return to;
        }
        throw new IllegalStateException("the root is lost");
    }

    int run() {
        int often = 0;
        for (int[] change : plan) {
            if (can(row.length, change[0], change[1])) {
                int[] to = changed(row, change[0], change[1]);
                if (Arrays.stream(to).max().getAsInt() <= 9) {
                    row = to;
                    often++;
                }
            }
        }
        return often;
    }

    private boolean isNoShelf(int shelf) {
        return shelf != 0 && shelf != 1;
    }

    private boolean isNoKept(int shelf, int k) {
        return isNoShelf(shelf) || k < 0 || k >= shelves.get(shelf).size();
    }

    int keep(int shelf) {
        if (isNoShelf(shelf)) return -1;
        if (shelves.get(shelf).size() == 8) return -4;
        shelves.get(shelf).add(row.clone());
        return shelves.get(shelf).size() - 1;
    }

    int lay(int shelf, int k) {
        if (isNoKept(shelf, k)) return -1;
        row = shelves.get(shelf).get(k).clone();
        return weight();
    }

    int drop(int shelf, int k) {
        if (isNoKept(shelf, k)) return -1;
        shelves.get(shelf).remove(k);
        return shelves.get(shelf).size();
    }

    int lightest(int shelf) {
        if (isNoShelf(shelf)) return -1;
        int least = Integer.MAX_VALUE;
        int at = -5;
        for (int k = 0; k < shelves.get(shelf).size(); k++) {
            int weight = Arrays.stream(shelves.get(shelf).get(k)).sum();
            if (weight < least) {
                least = weight;
                at = k;
            }
        }
        return at;
    }

    int pour(int shelf, int other) {
        if (isNoShelf(shelf) || isNoShelf(other)) return -1;
        if (shelf == other) return -3;
        if (shelves.get(shelf).size() + shelves.get(other).size() > 8) return -4;
        shelves.get(other).addAll(shelves.get(shelf));
        shelves.get(shelf).clear();
        return shelves.get(other).size();
    }

    int held(int shelf, int k) {
        if (isNoShelf(shelf)) return -1;
        if (k == -1) return shelves.get(shelf).size();
        return isNoKept(shelf, k) ? -1 : Arrays.stream(shelves.get(shelf).get(k)).sum();
    }

    // ---- lists, texts, the image

    int list(int list, int n) {
        if (list < 0 || list > 2) return -1;
        if (n > 30) return -2;
        if (n < -1) return -14;
        lists[list] = n == -1 ? null : new long[n];
        return 1;
    }

    int put(int list, int i, long v) {
        if (list < 0 || list > 2) return -1;
        if (lists[list] == null) return -11;
        if (i < 0 || i >= lists[list].length) return -13;
        lists[list][i] = v;
        return 1;
    }

    long get(int list, int i) {
        if (list < 0 || list > 2 || lists[list] == null || i < 0 || i >= lists[list].length) return VOID;
        return lists[list][i];
    }

    int film(int list) {
        if (list < 0 || list > 2) return -1;
        lists[list] = Arrays.stream(row).asLongStream().toArray();
        return row.length;
    }

    int feed(int letter) {
        if (letter < 32 || letter > 126) return -2;
        if (tape.length() == 100) return -4;
        tape.append((char) letter);
        return tape.length();
    }

    int wipe() {
        int was = tape.length();
        tape = new StringBuilder();
        return was;
    }

    /** The first place whose byte no TEXT has there: no longer beginning can be made whole. */
    private static int fault(String text) {
        for (int i = 0; i < text.length(); i++) {
            Matcher matcher = TEXT.matcher(text.substring(0, i + 1));
            if (!matcher.matches() && !matcher.hitEnd()) return i;
        }
        return text.length();
    }

    int read() {
        String text = tape.toString();
        tape = new StringBuilder();
        if (!TEXT.matcher(text).matches()) return -100 - fault(text);
        String[] halves = text.split(":", -1);
        int n = Integer.parseInt(halves[0]);
        if (n < 2 || n > 30) return -9;
        int[] told = new int[n];
        if (!halves[1].isEmpty()) {
            for (String item : halves[1].split(",")) {
                String[] pair = item.split("x");
                int root = Integer.parseInt(pair[0]);
                if (root >= n) return -9;
                told[root] += pair.length == 1 ? 1 : Integer.parseInt(pair[1]);
            }
        }
        if (Arrays.stream(told).max().getAsInt() > 9) return -9;
        row = told;
        return weight();
    }

    int spelled(int i) {
        List<String> items = new ArrayList<>();
        for (int e = 0; e < row.length; e++) {
            if (row[e] > 0) items.add(row[e] == 1 ? "" + e : e + "x" + row[e]);
        }
        String text = row.length + ":" + String.join(",", items);
        if (i == -1) return text.length();
        return i < 0 || i >= text.length() ? -1 : text.charAt(i);
    }

    private static List<List<int[]>> copyOf(List<List<int[]>> shelves) {
        return new ArrayList<>(List.of(new ArrayList<>(shelves.get(0)), new ArrayList<>(shelves.get(1))));
    }

    int image() {
        imageRow = row.clone();
        imagePlan = new ArrayList<>(plan);
        imageShelves = copyOf(shelves);
        return weight();
    }

    int undo() {
        if (imageRow == null) return -3;
        row = imageRow.clone();
        plan = new ArrayList<>(imagePlan);
        shelves = copyOf(imageShelves);
        return weight();
    }

    int count(int what) {
        switch (what) {
            case 0: return row.length;
            case 1: return (int) Arrays.stream(row).filter(c -> c > 0).count();
            case 2: return plan.size();
            case 3: return tape.length();
            case 4: return shelves.get(0).size() + shelves.get(1).size();
            case 5: return (int) Arrays.stream(lists).filter(list -> list != null).count();
            default: return -1;
        }
    }
}
