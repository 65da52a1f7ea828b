/** What can be asked whole: each N, each set of roots, each weight, held against the Model. */
public final class WholeTest {
    private static int asked = 0;
    private static int wrong = 0;

    private static void due(int n, String call, long got, long want) {
        asked++;
        if (got != want) {
            wrong++;
            System.out.println("N " + n + ": " + call + " answered " + got + ", due is " + want);
        }
    }

    public static void main(String[] args) {
        for (int n = 2; n <= 30; n++) {
            divisions(n);
            weights(n);
            layers(n);
        }
        for (int n = 2; n <= 12; n++) {
            lists(n);
            fillings(n);
            behindAnother(n);
        }
        System.out.println(wrong == 0 ? asked + " answers are as the model's" : wrong + " answers are otherwise");
        if (wrong != 0) System.exit(1);
    }

    private static NoughtSums made(int n) {
        NoughtSums x = new NoughtSums();
        x.base(n);
        return x;
    }

    private static Model model(int n) {
        Model m = new Model();
        m.base(n);
        return m;
    }

    private static void divisions(int n) {
        for (int i = -2; i <= 31; i++) due(n, "phi(" + i + ")", made(n).phi(i), model(n).phi(i));
        for (int e = 0; e < n; e++) {
            NoughtSums x = made(n);
            Model m = model(n);
            x.set(e, 9);
            m.set(e, 9);
            for (int i = -1; i <= 30; i++) due(n, "rest(" + i + ") of ROOT " + e, x.rest(i), m.rest(i));
        }
    }

    private static void weights(int n) {
        NoughtSums x = made(n);
        Model m = model(n);
        for (int w = -1; w <= 201; w++) {
            due(n, "possible(" + w + ")", x.possible(w), m.possible(w));
            due(n, "ways(" + w + ")", x.ways(w), m.ways(w));
        }
        x = made(n);
        for (int k = -1; k <= 201; k += 5) due(n, "hole(" + k + ")", x.hole(k), m.hole(k));
        for (int i = -2; i <= 4; i++) due(n, "prime(" + i + ")", x.prime(i), m.prime(i));
    }

    private static void layers(int n) {
        for (int p = -1; p <= 30; p++) {
            NoughtSums x = made(n);
            Model m = model(n);
            for (int e = 0; e < n; e++) {
                x.set(e, e * e % 10);
                m.set(e, e * e % 10);
            }
            for (int j = -1; j <= p && j < 13; j++) {
                for (int e = 0; e < n; e++) due(n, "layer", x.layer(p, j, e), m.layer(p, j, e));
            }
            due(n, "layers(" + p + ", 0)", x.layers(p, 0), m.layers(p, 0));
            due(n, "layers(" + p + ", 1)", x.layers(p, 1), m.layers(p, 1));
        }
    }

    private static void lists(int n) {
        NoughtSums x = made(n);
        Model m = model(n);
        for (int w = 0; w <= 13; w++) {
            for (int k = -2; k <= 4; k++) due(n, "listed(" + w + ", " + k + ")", x.listed(w, k), m.listed(w, k));
        }
    }

    /** The model's own filled() is asked for some sets alone, as it looks at every row each time. */
    private static void fillings(int n) {
        int size = 1 << n;
        int[] best = new int[size];
        for (int bits = size - 1; bits >= 0; bits--) {
            int[] counts = new int[n];
            for (int e = 0; e < n; e++) counts[e] = bits >> e & 1;
            best[bits] = Model.isNought(counts) ? bits : -1;
            for (int e = 0; e < n && best[bits] != bits; e++) {
                if ((bits >> e & 1) == 0) best[bits] = better(best[bits], best[bits | 1 << e]);
            }
        }
        NoughtSums x = made(n);
        for (int set = 0; set < size; set++) {
            if (set % 250 == 0) {
                x = made(n);
                due(n, "filled", model(n).filled(set, 1), best[set]);
            }
            due(n, "filled(" + set + ", 1)", x.filled(set, 1), best[set]);
            due(n, "filled(" + set + ", 0)", x.filled(set, 0), Integer.bitCount(best[set]));
        }
        due(n, "filled", made(n).filled(size, 0), NoughtSums.BAD);
    }

    /** Tables that were made for another N must leave nothing behind. */
    private static void behindAnother(int n) {
        Model m = model(n);
        for (int other = 2; other <= 12; other++) {
            NoughtSums x = made(other);
            x.filled(0, 0);
            x.base(n);
            for (int set = 0; set < 1 << n; set += 1 + (1 << n) / 40) {
                due(n, "filled(" + set + ", 1) behind " + other, x.filled(set, 1), m.filled(set, 1));
            }
            for (int w = 1; w <= 12; w++) {
                due(n, "listed(" + w + ", -1) behind " + other, x.listed(w, -1), m.listed(w, -1));
                due(n, "listed(" + w + ", 0) behind " + other, x.listed(w, 0), m.listed(w, 0));
            }
        }
    }

    private static int better(int one, int other) {
        if (one < 0 || other < 0) return Math.max(one, other);
        int byWeight = Integer.compare(Integer.bitCount(one), Integer.bitCount(other));
        return byWeight < 0 || (byWeight == 0 && one < other) ? one : other;
    }
}
