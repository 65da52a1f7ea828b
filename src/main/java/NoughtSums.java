import java.util.Arrays;

/**
 * Sums of roots of one that come to nought. The words in capitals are those of the document:
 * THE ROW, COUNT, WEIGHT, PART, LAYER and so on. No call throws; what can't be is answered by
 * one of the constants.
 */
public final class NoughtSums {
    public static final int NONE = -1, BAD = -2, STATE = -3, FULL = -4, NOT = -5, DEAR = -8, MISSING = -11, PLACE = -13, BELOW = -14;
    public static final long VOID = Long.MIN_VALUE;

    private static final int WRONG = -9, FAULT = -100;
    private static final int LEAST_N = 2, FIRST_N = 6, MOST_N = 30, MOST_BITS_N = 12;
    private static final int MOST_COUNT = 9, MOST_PARTS = 20000, MOST_WEIGHT = 200, MOST_TIMES = 99;
    private static final int SHELVES = 2, MOST_KEPT = 8, MOST_CHANGES = 8;
    private static final int LISTS = 3, MOST_LONGS = 30;
    private static final int MOST_TAPE = 100, LEAST_LETTER = 32, MOST_LETTER = 126;

    /** 30 ROOTS spelled with x and COUNT take 142 bytes with N in front. */
    private static final int MOST_SPELLED = 160;

    /** Of N 12 there are 100 rows with COUNTS 0 and 1 that are NOUGHT, of each lesser N fewer. */
    private static final int MOST_BIT_ROWS = 128;

    /** The degree of PHI is 28 at most (N 29): four words of eight numbers hold a REST. */
    private static final int MOST_WORDS = 4, DIGITS = 8, DIGIT_BITS = 8;

    /** The kinds of CHANGES, by the numbers that plan() takes. */
    private static final int TURNED = 0, TIMES = 1, MIRRORED = 2, RAISED = 3;

    private final State state = new State();
    private final State kept = new State();
    private boolean hasImage;
    private final Division division = new Division();
    private final Walk walk = new Walk(division);
    private final Parts found = new Parts(walk);
    private final BitRows bitRows = new BitRows(walk);
    private final LongList[] lists = {new LongList(), new LongList(), new LongList()};
    private final Tape tape = new Tape();
    private final Spelling spelling = new Spelling();
    private final Row remaining = new Row();
    private final int[] spare = new int[MOST_N];
    private final int[] leftByFirst = new int[MOST_N];
    private final int[] waysTo = new int[MOST_WEIGHT + 1];

    public NoughtSums() {
    }

    // ---- the row

    public int base(int n) {
        if (!isBase(n)) {
            return BAD;
        }
        int before = state.row.n;
        state.row.renew(n);
        return before;
    }

    public int set(int e, int c) {
        Row row = state.row;
        if (!row.has(e)) {
            return NONE;
        }
        if (c < 0 || c > MOST_COUNT) {
            return BAD;
        }
        int before = row.counts[e];
        row.counts[e] = c;
        return before;
    }

    public int add(int e) {
        Row row = state.row;
        if (!row.has(e)) {
            return NONE;
        }
        if (row.counts[e] >= MOST_COUNT) {
            return FULL;
        }
        row.counts[e]++;
        return row.counts[e];
    }

    public int of(int e) {
        return state.row.has(e) ? state.row.counts[e] : NONE;
    }

    public int weight() {
        return state.row.total();
    }

    public int clear() {
        int before = state.row.total();
        state.row.renew(state.row.n);
        return before;
    }

    // ---- nought

    public long phi(int i) {
        division.prepare(state.row.n);
        if (i == -1) {
            return division.degree;
        }
        return i < 0 || i > division.degree ? VOID : division.divisor[i];
    }

    public long rest(int i) {
        division.prepare(state.row.n);
        if (i < 0 || i >= division.degree) {
            return VOID;
        }
        division.divide(state.row.counts);
        return division.left[i];
    }

    public int nought() {
        return isNought(state.row) ? 1 : 0;
    }

    public int primitive() {
        Row row = state.row;
        if (row.isDear()) {
            return DEAR;
        }
        found.lookThrough(row);
        // A NOUGHT row is one of its own PARTS: one found means that there is no other.
        return found.all == 1 && isNought(row) ? 1 : 0;
    }

    public int parts(int what) {
        if (what < 0 || what > 2) {
            return NONE;
        }
        if (state.row.isDear()) {
            return DEAR;
        }
        found.lookThrough(state.row);
        if (what == 0) {
            return found.all;
        }
        if (what == 1) {
            return found.all == 0 ? NOT : found.least;
        }
        return found.ofLeast;
    }

    public int part(int e) {
        Row row = state.row;
        if (!row.has(e)) {
            return NONE;
        }
        if (row.isDear()) {
            return DEAR;
        }
        found.lookThrough(row);
        return found.all == 0 ? NOT : found.first[e];
    }

    public int take() {
        Row row = state.row;
        if (row.isDear()) {
            return DEAR;
        }
        return loseFirstPart(row) ? found.least : NOT;
    }

    public int pieces() {
        if (state.row.isDear()) {
            return DEAR;
        }
        remaining.become(state.row);
        int often = 0;
        // Each PART has a WEIGHT above 0, so there are no more of them than roots taken.
        for (int i = 0; i < MOST_N * MOST_COUNT && loseFirstPart(remaining); i++) {
            often++;
        }
        return often;
    }

    // ---- changes

    public int turn(int k) {
        change(TURNED, k);
        return state.row.counts[0];
    }

    public int times(int u) {
        if (u < 1 || u > MOST_TIMES) {
            return BAD;
        }
        return change(TIMES, u) ? state.row.counts[0] : STATE;
    }

    public int mirror() {
        change(MIRRORED, 0);
        return state.row.counts[0];
    }

    public int raise(int p) {
        if (!isPrimeOf(p, state.row.n)) {
            return NONE;
        }
        return change(RAISED, p) ? state.row.counts[0] : FULL;
    }

    public int stays(int what) {
        if (what != 0 && what != 1) {
            return NONE;
        }
        Row row = state.row;
        int often = 1;
        int least = row.n;
        for (int k = row.n - 1; k > 0; k--) {
            if (row.compareTurned(k, 0) == 0) {
                often++;
                least = k;
            }
        }
        return what == 0 ? often : least;
    }

    public int best() {
        Row row = state.row;
        int best = 0;
        for (int k = 1; k < row.n; k++) {
            if (row.compareTurned(k, best) > 0) {
                best = k;
            }
        }
        return best;
    }

    public int alike(int list) {
        if (!isList(list)) {
            return NONE;
        }
        LongList told = lists[list];
        if (told.isMissing()) {
            return MISSING;
        }
        if (told.size != state.row.n) {
            return NOT;
        }
        for (int k = 0; k < state.row.n; k++) {
            if (state.row.isToldTurned(k, told.values)) {
                return k;
            }
        }
        return NOT;
    }

    // ---- primes, weights

    public int prime(int i) {
        if (i < -1) {
            return NONE;
        }
        int before = 0;
        for (int p = 2; p <= state.row.n; p++) {
            if (isPrimeOf(p, state.row.n)) {
                if (before == i) {
                    return p;
                }
                before++;
            }
        }
        return i == -1 ? before : NONE;
    }

    public int layer(int p, int j, int e) {
        Row row = state.row;
        if (!isPrimeOf(p, row.n) || j < 0 || j >= p || !row.has(e)) {
            return NONE;
        }
        return countInLayer(row, p, j * layerStep(row.n, p), e);
    }

    public int layers(int p, int what) {
        if (!isPrimeOf(p, state.row.n) || what < 0 || what > 1) {
            return NONE;
        }
        int odd = firstOddLayer(state.row, p);
        if (what == 1) {
            return odd;
        }
        return odd == NOT ? 1 : 0;
    }

    public int possible(int w) {
        if (w < 0 || w > MOST_WEIGHT) {
            return BAD;
        }
        countWays();
        return waysTo[w] > 0 ? 1 : 0;
    }

    public int ways(int w) {
        if (w < 0 || w > MOST_WEIGHT) {
            return BAD;
        }
        countWays();
        return waysTo[w];
    }

    public int hole(int k) {
        if (k < 0) {
            return NONE;
        }
        countWays();
        int before = 0;
        for (int w = 1; w <= MOST_WEIGHT; w++) {
            if (waysTo[w] == 0) {
                if (before == k) {
                    return w;
                }
                before++;
            }
        }
        return NOT;
    }

    // ---- listed, filled

    public int listed(int w, int k) {
        if (w < 1 || w > MOST_BITS_N) {
            return BAD;
        }
        if (state.row.n > MOST_BITS_N) {
            return STATE;
        }
        if (k < -1) {
            return NONE;
        }
        bitRows.prepare(state.row.n);
        int before = 0;
        for (int i = 0; i < bitRows.size; i++) {
            if (bitRows.isListed(i, w)) {
                if (before == k) {
                    return bitRows.rows[i];
                }
                before++;
            }
        }
        return k == -1 ? before : NONE;
    }

    public int filled(int set, int what) {
        int n = state.row.n;
        if (n > MOST_BITS_N) {
            return STATE;
        }
        if (set < 0 || set >= 1 << n) {
            return BAD;
        }
        if (what != 0 && what != 1) {
            return NONE;
        }
        bitRows.prepare(n);
        int bits = bitRows.lightestWith(set);
        return what == 0 ? Integer.bitCount(bits) : bits;
    }

    // ---- plans, shelves

    public int plan(int what, int v) {
        if (what < TURNED || what > RAISED) {
            return NONE;
        }
        Plan plan = state.plan;
        if (plan.size >= MOST_CHANGES) {
            return FULL;
        }
        plan.append(what, v);
        return plan.size;
    }

    public int unplan() {
        int before = state.plan.size;
        state.plan.size = 0;
        return before;
    }

    public int where(int e) {
        if (!state.row.has(e)) {
            return NONE;
        }
        int n = state.row.n;
        Plan plan = state.plan;
        int at = e;
        for (int i = 0; i < plan.size; i++) {
            if (canChange(plan.kinds[i], plan.values[i], n)) {
                at = rootBehind(plan.kinds[i], plan.values[i], n, at);
            }
        }
        return at;
    }

    public int run() {
        Plan plan = state.plan;
        int made = 0;
        for (int i = 0; i < plan.size; i++) {
            if (change(plan.kinds[i], plan.values[i])) {
                made++;
            }
        }
        return made;
    }

    public int keep(int shelf) {
        if (!isShelf(shelf)) {
            return NONE;
        }
        Shelf to = state.shelves[shelf];
        if (to.size >= MOST_KEPT) {
            return FULL;
        }
        to.append(state.row);
        return to.size - 1;
    }

    public int lay(int shelf, int k) {
        if (!isShelf(shelf) || !state.shelves[shelf].has(k)) {
            return NONE;
        }
        state.row.become(state.shelves[shelf].rows[k]);
        return state.row.total();
    }

    public int drop(int shelf, int k) {
        if (!isShelf(shelf) || !state.shelves[shelf].has(k)) {
            return NONE;
        }
        state.shelves[shelf].remove(k);
        return state.shelves[shelf].size;
    }

    public int lightest(int shelf) {
        if (!isShelf(shelf)) {
            return NONE;
        }
        Shelf of = state.shelves[shelf];
        if (of.size == 0) {
            return NOT;
        }
        int least = 0;
        for (int k = 1; k < of.size; k++) {
            if (of.rows[k].total() < of.rows[least].total()) {
                least = k;
            }
        }
        return least;
    }

    public int pour(int shelf, int other) {
        if (!isShelf(shelf) || !isShelf(other)) {
            return NONE;
        }
        if (shelf == other) {
            return STATE;
        }
        Shelf from = state.shelves[shelf];
        Shelf to = state.shelves[other];
        if (from.size + to.size > MOST_KEPT) {
            return FULL;
        }
        for (int k = 0; k < from.size; k++) {
            to.append(from.rows[k]);
        }
        from.size = 0;
        return to.size;
    }

    public int held(int shelf, int k) {
        if (!isShelf(shelf)) {
            return NONE;
        }
        Shelf of = state.shelves[shelf];
        if (k == -1) {
            return of.size;
        }
        return of.has(k) ? of.rows[k].total() : NONE;
    }

    // ---- lists, texts, the image

    public int list(int list, int n) {
        if (!isList(list)) {
            return NONE;
        }
        if (n > MOST_LONGS) {
            return BAD;
        }
        if (n < -1) {
            return BELOW;
        }
        lists[list].renew(n);
        return 1;
    }

    public int put(int list, int i, long v) {
        if (!isList(list)) {
            return NONE;
        }
        LongList to = lists[list];
        if (to.isMissing()) {
            return MISSING;
        }
        if (!to.has(i)) {
            return PLACE;
        }
        to.values[i] = v;
        return 1;
    }

    public long get(int list, int i) {
        return isList(list) && lists[list].has(i) ? lists[list].values[i] : VOID;
    }

    public int film(int list) {
        if (!isList(list)) {
            return NONE;
        }
        Row row = state.row;
        lists[list].renew(row.n);
        for (int e = 0; e < row.n; e++) {
            lists[list].values[e] = row.counts[e];
        }
        return row.n;
    }

    public int feed(int letter) {
        if (letter < LEAST_LETTER || letter > MOST_LETTER) {
            return BAD;
        }
        if (tape.size >= MOST_TAPE) {
            return FULL;
        }
        tape.append(letter);
        return tape.size;
    }

    public int wipe() {
        int before = tape.size;
        tape.size = 0;
        return before;
    }

    public int read() {
        boolean whole = tape.scan();
        tape.size = 0;
        if (!whole) {
            return FAULT - tape.at;
        }
        if (tape.isWrong()) {
            return WRONG;
        }
        state.row.become(tape.told);
        return state.row.total();
    }

    public int spelled(int i) {
        spelling.spell(state.row);
        if (i == -1) {
            return spelling.size;
        }
        return i < 0 || i >= spelling.size ? NONE : spelling.bytes[i];
    }

    public int image() {
        kept.become(state);
        hasImage = true;
        return state.row.total();
    }

    public int undo() {
        if (!hasImage) {
            return STATE;
        }
        state.become(kept);
        return state.row.total();
    }

    public int count(int what) {
        switch (what) {
            case 0:
                return state.row.n;
            case 1:
                return state.row.rootsTaken();
            case 2:
                return state.plan.size;
            case 3:
                return tape.size;
            case 4:
                return state.shelves[0].size + state.shelves[1].size;
            case 5:
                return listsThere();
            default:
                return NONE;
        }
    }

    // ---- what the calls share

    private static boolean isBase(int n) {
        return n >= LEAST_N && n <= MOST_N;
    }

    private static boolean isShelf(int shelf) {
        return shelf >= 0 && shelf < SHELVES;
    }

    private static boolean isList(int list) {
        return list >= 0 && list < LISTS;
    }

    private static boolean isPrimeOf(int p, int n) {
        if (p < 2 || p > n || n % p != 0) {
            return false;
        }
        for (int d = 2; d < p; d++) {
            if (p % d == 0) {
                return false;
            }
        }
        return true;
    }

    private static boolean shareDivisor(int u, int n) {
        for (int d = 2; d <= n; d++) {
            if (u % d == 0 && n % d == 0) {
                return true;
            }
        }
        return false;
    }

    private boolean isNought(Row row) {
        division.prepare(row.n);
        division.divide(row.counts);
        return division.leavesNothing();
    }

    /** Takes FIRST PART from a row that is not DEAR; false: there is none. */
    private boolean loseFirstPart(Row row) {
        found.lookThrough(row);
        if (found.all == 0) {
            return false;
        }
        for (int e = 0; e < row.n; e++) {
            row.counts[e] -= found.first[e];
        }
        return true;
    }

    private static boolean canChange(int kind, int v, int n) {
        if (kind == TIMES) {
            return v >= 1 && v <= MOST_TIMES && !shareDivisor(v, n);
        }
        return kind != RAISED || isPrimeOf(v, n);
    }

    /** Where ROOT e comes by one CHANGE that can be. */
    private static int rootBehind(int kind, int v, int n, int e) {
        switch (kind) {
            case TURNED:
                return (e + Math.floorMod(v, n)) % n;
            case MIRRORED:
                return (n - e) % n;
            default:
                return e * v % n;
        }
    }

    /** Changes THE ROW whole or, if that can not be, not at all: whether it could. */
    private boolean change(int kind, int v) {
        Row row = state.row;
        if (!canChange(kind, v, row.n)) {
            return false;
        }
        Arrays.fill(spare, 0);
        for (int e = 0; e < row.n; e++) {
            int to = rootBehind(kind, v, row.n, e);
            spare[to] += row.counts[e];
            if (spare[to] > MOST_COUNT) {
                return false;
            }
        }
        System.arraycopy(spare, 0, row.counts, 0, MOST_N);
        return true;
    }

    private static boolean squareDivides(int n, int p) {
        return n % (p * p) == 0;
    }

    /** How far LAYER 1 is moved against LAYER 0; p is a prime of n. */
    private static int layerStep(int n, int p) {
        if (squareDivides(n, p)) {
            return 1;
        }
        int t = n / p;
        // n over p and p have no divisor in common: a multiple below n is 1 modulo p.
        for (int i = 1; i < p && t % p != 1; i++) {
            t += n / p;
        }
        return t;
    }

    /** COUNT of ROOT e in the LAYER that was moved by so much; p is a prime of N. */
    private static int countInLayer(Row row, int p, int moved, int e) {
        return e % p == 0 ? row.counts[(e + moved) % row.n] : 0;
    }

    /** The first LAYER that speaks against NOUGHT, or NOT; p is a prime of N. */
    private int firstOddLayer(Row row, int p) {
        boolean alone = squareDivides(row.n, p);
        int step = layerStep(row.n, p);
        division.prepare(row.n);
        for (int j = 0; j < p; j++) {
            Arrays.fill(spare, 0);
            for (int e = 0; e < row.n; e += p) {
                spare[e] = countInLayer(row, p, j * step, e);
            }
            division.divide(spare);
            if (!alone && j == 0) {
                System.arraycopy(division.left, 0, leftByFirst, 0, MOST_N);
            }
            boolean fits = alone ? division.leavesNothing() : division.leaves(leftByFirst);
            if (!fits) {
                return j;
            }
        }
        return NOT;
    }

    private void countWays() {
        int n = state.row.n;
        Arrays.fill(waysTo, 0);
        waysTo[0] = 1;
        for (int p = 2; p <= n; p++) {
            if (isPrimeOf(p, n)) {
                for (int w = p; w <= MOST_WEIGHT; w++) {
                    waysTo[w] += waysTo[w - p];
                }
            }
        }
    }

    private int listsThere() {
        int there = 0;
        for (int i = 0; i < LISTS; i++) {
            if (!lists[i].isMissing()) {
                there++;
            }
        }
        return there;
    }

    // ---- the classes inside

    /** A row with its N. Places from N on are always 0, so that rows can be copied whole. */
    private static final class Row {
        int n = FIRST_N;
        final int[] counts = new int[MOST_N];

        void renew(int base) {
            n = base;
            Arrays.fill(counts, 0);
        }

        void become(Row other) {
            n = other.n;
            System.arraycopy(other.counts, 0, counts, 0, MOST_N);
        }

        boolean has(int e) {
            return e >= 0 && e < n;
        }

        boolean isSame(Row other) {
            if (n != other.n) {
                return false;
            }
            for (int e = 0; e < n; e++) {
                if (counts[e] != other.counts[e]) {
                    return false;
                }
            }
            return true;
        }

        int total() {
            int sum = 0;
            for (int e = 0; e < n; e++) {
                sum += counts[e];
            }
            return sum;
        }

        int rootsTaken() {
            int taken = 0;
            for (int e = 0; e < n; e++) {
                if (counts[e] > 0) {
                    taken++;
                }
            }
            return taken;
        }

        boolean isDear() {
            int product = 1;
            // Leaving at the limit keeps the product far from what an int holds.
            for (int e = 0; e < n && product <= MOST_PARTS; e++) {
                product *= counts[e] + 1;
            }
            return product > MOST_PARTS;
        }

        /** COUNT of ROOT e in this row TURNED by k, both of 0 .. N less 1. */
        int turnedAt(int k, int e) {
            return counts[e < k ? e - k + n : e - k];
        }

        /** Above 0, if TURNED by k it has more of the first ROOT that tells it from TURNED by other. */
        int compareTurned(int k, int other) {
            for (int e = 0; e < n; e++) {
                int more = turnedAt(k, e) - turnedAt(other, e);
                if (more != 0) {
                    return more;
                }
            }
            return 0;
        }

        boolean isToldTurned(int k, long[] told) {
            for (int e = 0; e < n; e++) {
                if (turnedAt(k, e) != told[e]) {
                    return false;
                }
            }
            return true;
        }
    }

    private static final class Plan {
        int size;
        final int[] kinds = new int[MOST_CHANGES];
        final int[] values = new int[MOST_CHANGES];

        void append(int kind, int v) {
            if (size < MOST_CHANGES) {
                kinds[size] = kind;
                values[size] = v;
                size++;
            }
        }

        void become(Plan other) {
            size = other.size;
            System.arraycopy(other.kinds, 0, kinds, 0, MOST_CHANGES);
            System.arraycopy(other.values, 0, values, 0, MOST_CHANGES);
        }
    }

    /** All its rows are made at once and used again, so that keeping makes no objects. */
    private static final class Shelf {
        int size;
        final Row[] rows = new Row[MOST_KEPT];

        Shelf() {
            for (int k = 0; k < MOST_KEPT; k++) {
                rows[k] = new Row();
            }
        }

        boolean has(int k) {
            return k >= 0 && k < size;
        }

        void append(Row row) {
            if (size < MOST_KEPT) {
                rows[size].become(row);
                size++;
            }
        }

        void remove(int k) {
            if (has(k)) {
                for (int i = k; i + 1 < size; i++) {
                    rows[i].become(rows[i + 1]);
                }
                size--;
            }
        }

        void become(Shelf other) {
            size = other.size;
            for (int k = 0; k < size; k++) {
                rows[k].become(other.rows[k]);
            }
        }
    }

    /** Just what THE IMAGE holds. */
    private static final class State {
        final Row row = new Row();
        final Plan plan = new Plan();
        final Shelf[] shelves = {new Shelf(), new Shelf()};

        void become(State other) {
            row.become(other.row);
            plan.become(other.plan);
            for (int i = 0; i < SHELVES; i++) {
                shelves[i].become(other.shelves[i]);
            }
        }
    }

    /** Division by PHI of N. What hangs on N alone is made anew only for another N. */
    private static final class Division {
        private int n;
        private int packedN;
        private int words;
        int degree;
        final int[] divisor = new int[MOST_N];
        final int[] left = new int[MOST_N];
        private final long[] packed = new long[MOST_N * MOST_WORDS];

        void prepare(int base) {
            if (n != base && isBase(base)) {
                n = base;
                makeDivisor();
            }
        }

        /** Behind prepare(), and apart from it, as only walks need what is packed. */
        void preparePacked() {
            if (packedN != n) {
                packedN = n;
                makePacked();
            }
        }

        /**
         * PHI of n is the product, over the divisors d of n, of 1 less x to the d-th, to the power
         * of the Moebius number of n over d. Numbers at x to the n-th and above are never needed,
         * so a division may go from the lowest number up.
         */
        private void makeDivisor() {
            Arrays.fill(divisor, 0);
            divisor[0] = 1;
            for (int d = 1; d <= n; d++) {
                if (n % d == 0) {
                    multiplyDivisor(d, moebius(n / d));
                }
            }
            degree = 0;
            for (int i = 1; i < n; i++) {
                if (divisor[i] != 0) {
                    degree = i;
                }
            }
            words = (degree + DIGITS - 1) / DIGITS;
        }

        private void multiplyDivisor(int d, int power) {
            if (power > 0) {
                for (int i = n - 1; i >= d; i--) {
                    divisor[i] -= divisor[i - d];
                }
            } else if (power < 0) {
                for (int i = d; i < n; i++) {
                    divisor[i] += divisor[i - d];
                }
            }
        }

        private static int moebius(int m) {
            int sign = 1;
            int other = m;
            for (int p = 2; p <= m; p++) {
                if (other % p == 0) {
                    other /= p;
                    if (other % p == 0) {
                        return 0;
                    }
                    sign = -sign;
                }
            }
            return sign;
        }

        /**
         * Packs what each ROOT alone leaves, so that looking through PARTS adds a few longs
         * instead of up to 28 numbers. No number of a REST reaches 256 for any row (at most 9 of
         * each ROOT), so words of 8 bits a number are all 0 just if the numbers are.
         */
        private void makePacked() {
            Arrays.fill(packed, 0L);
            for (int e = 0; e < n; e++) {
                Arrays.fill(left, 0);
                left[e] = 1;
                reduce();
                for (int i = 0; i < degree; i++) {
                    packed[e * MOST_WORDS + i / DIGITS] += (long) left[i] << (i % DIGITS * DIGIT_BITS);
                }
            }
        }

        void divide(int[] counts) {
            System.arraycopy(counts, 0, left, 0, MOST_N);
            reduce();
        }

        private void reduce() {
            for (int top = n - 1; top >= degree; top--) {
                int often = left[top];
                if (often != 0) {
                    for (int i = 0; i <= degree; i++) {
                        left[top - degree + i] -= often * divisor[i];
                    }
                }
            }
        }

        boolean leavesNothing() {
            for (int i = 0; i < degree; i++) {
                if (left[i] != 0) {
                    return false;
                }
            }
            return true;
        }

        boolean leaves(int[] numbers) {
            for (int i = 0; i < degree; i++) {
                if (left[i] != numbers[i]) {
                    return false;
                }
            }
            return true;
        }

        void addPacked(long[] sum, int e, int often) {
            for (int i = 0; i < words; i++) {
                sum[i] += packed[e * MOST_WORDS + i] * often;
            }
        }
    }

    /**
     * Goes through all that can be taken of a row, nothing at first, the lowest ROOT changing
     * fastest: of a row with 1 of each ROOT this counts in bits.
     */
    private static final class Walk {
        private final Division division;
        private final int[] roots = new int[MOST_N];
        private final int[] most = new int[MOST_N];
        private final long[] sum = new long[MOST_WORDS];
        private int size;
        final int[] taken = new int[MOST_N];
        int total;

        Walk(Division division) {
            this.division = division;
        }

        void begin(int n, int[] counts) {
            division.prepare(n);
            division.preparePacked();
            size = 0;
            total = 0;
            Arrays.fill(taken, 0);
            Arrays.fill(sum, 0L);
            for (int e = 0; e < n; e++) {
                most[e] = counts[e];
                if (counts[e] > 0) {
                    roots[size] = e;
                    size++;
                }
            }
        }

        /** False: all has been gone through. */
        boolean goesOn() {
            for (int i = 0; i < size; i++) {
                int e = roots[i];
                if (taken[e] < most[e]) {
                    taken[e]++;
                    total++;
                    division.addPacked(sum, e, 1);
                    return true;
                }
                division.addPacked(sum, e, -taken[e]);
                total -= taken[e];
                taken[e] = 0;
            }
            return false;
        }

        boolean isAtNought() {
            for (int i = 0; i < MOST_WORDS; i++) {
                if (sum[i] != 0L) {
                    return false;
                }
            }
            return true;
        }
    }

    /** What is found among the PARTS of a row that are NOUGHT. */
    private static final class Parts {
        private final Walk walk;
        private final Row known = new Row();
        private boolean hasLooked;
        final int[] first = new int[MOST_N];
        int all;
        int least;
        int ofLeast;

        Parts(Walk walk) {
            this.walk = walk;
        }

        /** The row is not DEAR. Calls often ask the same row again: then nothing is done. */
        void lookThrough(Row row) {
            if (hasLooked && known.isSame(row)) {
                return;
            }
            hasLooked = true;
            known.become(row);
            all = 0;
            least = 0;
            ofLeast = 0;
            walk.begin(row.n, row.counts);
            for (int i = 0; i < MOST_PARTS && walk.goesOn(); i++) {
                if (walk.isAtNought()) {
                    note();
                }
            }
        }

        private void note() {
            all++;
            if (all == 1 || walk.total < least) {
                least = walk.total;
                ofLeast = 1;
                becomeFirst();
            } else if (walk.total == least) {
                ofLeast++;
                if (isAheadOfFirst()) {
                    becomeFirst();
                }
            }
        }

        private boolean isAheadOfFirst() {
            for (int e = 0; e < known.n; e++) {
                if (walk.taken[e] != first[e]) {
                    return walk.taken[e] > first[e];
                }
            }
            return false;
        }

        private void becomeFirst() {
            System.arraycopy(walk.taken, 0, first, 0, MOST_N);
        }
    }

    /** All rows with COUNTS 0 and 1 that are NOUGHT, as bits, rising; made anew only for another N. */
    private static final class BitRows {
        private final Walk walk;
        private final int[] ones = new int[MOST_N];
        private int n;
        final int[] rows = new int[MOST_BIT_ROWS];
        int size;

        BitRows(Walk walk) {
            this.walk = walk;
        }

        void prepare(int base) {
            if (n == base || !isBase(base) || base > MOST_BITS_N) {
                return;
            }
            n = base;
            size = 0;
            Arrays.fill(ones, 1);
            walk.begin(n, ones);
            for (int bits = 0; bits < 1 << n; bits++) {
                if (walk.isAtNought() && size < MOST_BIT_ROWS) {
                    rows[size] = bits;
                    size++;
                }
                walk.goesOn();
            }
        }

        boolean isListed(int i, int w) {
            int bits = rows[i];
            return Integer.bitCount(bits) == w && !splits(bits) && isLeastTurned(bits);
        }

        private boolean splits(int bits) {
            for (int i = 0; i < size; i++) {
                int part = rows[i];
                if (part != 0 && part != bits && (part & bits) == part) {
                    return true;
                }
            }
            return false;
        }

        private boolean isLeastTurned(int bits) {
            int turned = bits;
            for (int k = 1; k < n; k++) {
                turned = (turned << 1 | turned >> (n - 1)) & ((1 << n) - 1);
                if (turned < bits) {
                    return false;
                }
            }
            return true;
        }

        /** All ROOTS together are NOUGHT, so there always is a row that has the set. */
        int lightestWith(int set) {
            int best = (1 << n) - 1;
            for (int i = 0; i < size; i++) {
                int bits = rows[i];
                if ((bits & set) == set && Integer.bitCount(bits) < Integer.bitCount(best)) {
                    best = bits;
                }
            }
            return best;
        }
    }

    /** A LIST; of size -1 it is missing. */
    private static final class LongList {
        int size = -1;
        final long[] values = new long[MOST_LONGS];

        void renew(int n) {
            size = n;
            Arrays.fill(values, 0L);
        }

        boolean isMissing() {
            return size < 0;
        }

        boolean has(int i) {
            return i >= 0 && i < size;
        }
    }

    /** THE TAPE, and what its TEXT tells. */
    private static final class Tape {
        private final int[] bytes = new int[MOST_TAPE];
        private boolean tellsWrong;
        int size;
        int at;
        final Row told = new Row();

        void append(int letter) {
            if (size < MOST_TAPE) {
                bytes[size] = letter;
                size++;
            }
        }

        boolean isWrong() {
            return tellsWrong;
        }

        /** False: it is no TEXT, and the FAULT is at place at. */
        boolean scan() {
            at = 0;
            int base = number();
            if (base < 0 || !passes(':')) {
                return false;
            }
            tellsWrong = !isBase(base);
            // What is WRONG is still read to its end: a FAULT behind it goes first.
            told.renew(tellsWrong ? MOST_N : base);
            if (at == size) {
                return true;
            }
            for (int i = 0; i < MOST_TAPE; i++) {
                if (!item()) {
                    return false;
                }
                if (at == size) {
                    return true;
                }
                if (!passes(',')) {
                    return false;
                }
            }
            return false;
        }

        private boolean item() {
            int root = number();
            if (root < 0) {
                return false;
            }
            int often = 1;
            if (passes('x')) {
                often = figure();
                if (often < 1) {
                    return false;
                }
                at++;
            }
            if (!told.has(root) || told.counts[root] + often > MOST_COUNT) {
                tellsWrong = true;
            } else {
                told.counts[root] += often;
            }
            return true;
        }

        /** One or two figures; -1: there is none. */
        private int number() {
            int value = figure();
            if (value < 0) {
                return -1;
            }
            at++;
            int second = figure();
            if (second >= 0) {
                value = value * 10 + second;
                at++;
            }
            return value;
        }

        /** The figure at this place, which is not passed; -1: there is none. */
        private int figure() {
            if (at >= size || bytes[at] < '0' || bytes[at] > '9') {
                return -1;
            }
            return bytes[at] - '0';
        }

        private boolean passes(char sign) {
            if (at >= size || bytes[at] != sign) {
                return false;
            }
            at++;
            return true;
        }
    }

    private static final class Spelling {
        int size;
        final int[] bytes = new int[MOST_SPELLED];

        void spell(Row row) {
            size = 0;
            number(row.n);
            append(':');
            boolean later = false;
            for (int e = 0; e < row.n; e++) {
                if (row.counts[e] > 0) {
                    if (later) {
                        append(',');
                    }
                    later = true;
                    item(e, row.counts[e]);
                }
            }
        }

        private void item(int root, int often) {
            number(root);
            if (often > 1) {
                append('x');
                number(often);
            }
        }

        private void number(int value) {
            if (value > 9) {
                append('0' + value / 10);
            }
            append('0' + value % 10);
        }

        private void append(int letter) {
            if (size < MOST_SPELLED) {
                bytes[size] = letter;
                size++;
            }
        }
    }
}
