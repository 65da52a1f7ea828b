/** The promises one by one: ordinary inputs, the edges that the document names, wrong inputs. */
public final class PromiseTest {
    private static final int NONE = -1, BAD = -2, STATE = -3, FULL = -4, NOT = -5, WRONG = -9, DEAR = -8;
    private static final int MISSING = -11, PLACE = -13, BELOW = -14;
    private static final long VOID = Long.MIN_VALUE;
    private static final int LEAST = Integer.MIN_VALUE, MOST = Integer.MAX_VALUE;

    private static int asked = 0;
    private static int wrong = 0;

    private static void due(int promise, String call, long got, long want) {
        asked++;
        if (got != want) {
            wrong++;
            System.out.println("promise " + promise + ": " + call + " answered " + got + ", due is " + want);
        }
    }

    public static void main(String[] args) {
        theRow();
        divisions();
        parts();
        moves();
        turns();
        primes();
        weights();
        bits();
        plans();
        shelves();
        pouring();
        lists();
        tape();
        texts();
        spelling();
        image();
        counts();
        constants();
        System.out.println(wrong == 0 ? asked + " answers are as due" : wrong + " answers are not as due");
        if (wrong != 0) System.exit(1);
    }

    /** A new object with the row that a text tells. */
    private static NoughtSums row(String text) {
        NoughtSums x = new NoughtSums();
        if (tell(x, text) < 0) throw new IllegalArgumentException(text);
        return x;
    }

    private static int tell(NoughtSums x, String text) {
        x.wipe();
        for (char letter : text.toCharArray()) x.feed(letter);
        return x.read();
    }

    private static String spelled(NoughtSums x) {
        StringBuilder text = new StringBuilder();
        int size = x.spelled(-1);
        for (int i = 0; i < size; i++) text.append((char) x.spelled(i));
        return text.toString();
    }

    private static void stands(int promise, NoughtSums x, String text) {
        asked++;
        if (!spelled(x).equals(text)) {
            wrong++;
            System.out.println("promise " + promise + ": the row is " + spelled(x) + ", due is " + text);
        }
    }

    private static void theRow() {
        NoughtSums x = new NoughtSums();
        due(1, "count(0)", x.count(0), 6);
        for (int e = 0; e < 6; e++) due(1, "of", x.of(e), 0);
        for (int what = 1; what < 6; what++) due(1, "count", x.count(what), 0);
        due(1, "undo()", x.undo(), STATE);

        due(3, "set(0, 9)", x.set(0, 9), 0);
        due(3, "set(0, 4)", x.set(0, 4), 9);
        due(3, "set(5, 1)", x.set(5, 1), 0);
        due(3, "set(6, 1)", x.set(6, 1), NONE);
        due(3, "set(-1, 1)", x.set(-1, 1), NONE);
        due(3, "set(0, 10)", x.set(0, 10), BAD);
        due(3, "set(0, -1)", x.set(0, -1), BAD);
        due(3, "set(6, 10)", x.set(6, 10), NONE);
        stands(3, x, "6:0x4,5");
        due(3, "set(0, 0)", x.set(0, 0), 4);
        stands(3, x, "6:5");

        for (int c = 2; c <= 9; c++) due(4, "add(5)", x.add(5), c);
        due(4, "add(5)", x.add(5), FULL);
        due(4, "add(6)", x.add(6), NONE);
        due(4, "add(-1)", x.add(-1), NONE);
        due(5, "of(5)", x.of(5), 9);
        due(5, "of(0)", x.of(0), 0);
        due(5, "of(6)", x.of(6), NONE);
        due(5, "of(-1)", x.of(-1), NONE);
        due(5, "of(MOST)", x.of(MOST), NONE);
        x.set(2, 3);
        due(6, "weight()", x.weight(), 12);
        due(7, "clear()", x.clear(), 12);
        due(7, "clear()", x.clear(), 0);
        due(7, "count(0)", x.count(0), 6);

        x.set(1, 2);
        due(2, "base(31)", x.base(31), BAD);
        due(2, "base(1)", x.base(1), BAD);
        due(2, "base(LEAST)", x.base(LEAST), BAD);
        stands(2, x, "6:1x2");
        due(2, "base(6)", x.base(6), 6);
        stands(2, x, "6:");
        due(2, "base(30)", x.base(30), 6);
        x.set(29, 9);
        due(2, "base(2)", x.base(2), 30);
        due(2, "base(30)", x.base(30), 2);
        due(2, "of(29)", x.of(29), 0);
        for (int e = 0; e < 30; e++) x.set(e, 9);
        due(6, "weight()", x.weight(), 270);
    }

    private static void divisions() {
        NoughtSums x = new NoughtSums();
        long[][] phis = {
            {2, 1, 1}, {3, 1, 1, 1}, {4, 1, 0, 1}, {8, 1, 0, 0, 0, 1}, {9, 1, 0, 0, 1, 0, 0, 1},
            {12, 1, 0, -1, 0, 1}, {15, 1, -1, 0, 1, -1, 1, 0, -1, 1}, {30, 1, 1, 0, -1, -1, -1, 0, 1, 1}};
        for (long[] phi : phis) {
            x.base((int) phi[0]);
            due(8, "phi(-1) of " + phi[0], x.phi(-1), phi.length - 2);
            for (int i = 1; i < phi.length; i++) due(8, "phi of " + phi[0], x.phi(i - 1), phi[i]);
            due(8, "phi above the degree", x.phi(phi.length - 1), VOID);
        }
        due(8, "phi(-2)", x.phi(-2), VOID);
        due(8, "phi(LEAST)", x.phi(LEAST), VOID);
        due(8, "phi(MOST)", x.phi(MOST), VOID);
        x.base(29);
        due(8, "phi(-1)", x.phi(-1), 28);
        due(8, "phi(28)", x.phi(28), 1);
        due(8, "phi(29)", x.phi(29), VOID);

        // x to the 3rd is -1, x to the 5th is -x to the 2nd, which is 1 - x, modulo PHI of 6.
        x = row("6:0,1x2,3x5,5x4");
        due(9, "rest(0)", x.rest(0), 1 - 5 + 4);
        due(9, "rest(1)", x.rest(1), 2 - 4);
        due(9, "rest(2)", x.rest(2), VOID);
        due(9, "rest(-1)", x.rest(-1), VOID);
        due(10, "nought()", x.nought(), 0);
        due(10, "nought()", row("6:0x2,3x2").nought(), 1);
        due(10, "nought()", row("6:").nought(), 1);
        due(10, "nought()", row("7:0,1,2,3,4,5,6").nought(), 1);
        due(10, "nought()", row("7:0,1,2,3,4,5,6x2").nought(), 0);
        x = row("29:28x9");
        for (int i = 0; i < 28; i++) due(9, "rest", x.rest(i), -9);
        due(9, "rest(28)", x.rest(28), VOID);
    }

    private static void parts() {
        due(11, "primitive()", row("6:0,2,4").primitive(), 1);
        due(11, "primitive()", row("6:0,2,4,1,3,5").primitive(), 0);
        due(11, "primitive()", row("6:0x2,3x2").primitive(), 0);
        due(11, "primitive()", row("6:0,3,1").primitive(), 0);
        due(11, "primitive()", row("6:").primitive(), 0);
        due(11, "primitive()", row("30:5,6,12,18,24,25").primitive(), 1);

        NoughtSums x = row("6:0,1,2,3,4,5");
        due(12, "parts(0)", x.parts(0), 9);
        due(12, "parts(1)", x.parts(1), 2);
        due(12, "parts(2)", x.parts(2), 3);
        due(12, "parts(3)", x.parts(3), NONE);
        due(12, "parts(-1)", x.parts(-1), NONE);
        due(13, "part(0)", x.part(0), 1);
        due(13, "part(3)", x.part(3), 1);
        due(13, "part(1)", x.part(1), 0);
        due(13, "part(6)", x.part(6), NONE);
        due(13, "part(-1)", x.part(-1), NONE);
        due(15, "pieces()", x.pieces(), 3);
        stands(15, x, "6:0,1,2,3,4,5");
        due(14, "take()", x.take(), 2);
        stands(14, x, "6:1,2,4,5");
        due(14, "take()", x.take(), 2);
        stands(14, x, "6:2,5");
        due(12, "parts(0)", x.parts(0), 1);
        due(14, "take()", x.take(), 2);
        due(14, "take()", x.take(), NOT);
        due(12, "parts(1)", x.parts(1), NOT);
        due(12, "parts(2)", x.parts(2), 0);
        due(13, "part(0)", x.part(0), NOT);
        due(15, "pieces()", x.pieces(), 0);

        x = row("6:0x2,3x2,1");
        due(12, "parts(0)", x.parts(0), 2);
        due(12, "parts(2)", x.parts(2), 1);
        due(15, "pieces()", x.pieces(), 2);
        due(14, "take()", x.take(), 2);
        stands(14, x, "6:0,1,3");
        // The same COUNTS with another N must be looked at anew.
        x = row("4:0,2");
        due(12, "parts(0)", x.parts(0), 1);
        x.base(6);
        x.set(0, 1);
        x.set(2, 1);
        due(12, "parts(0)", x.parts(0), 0);
        firstOfLike();
        dear();
    }

    /** Rows of N 30 with two PARTS of least WEIGHT, of which the one with the lesser last ROOT is not the first. */
    private static void firstOfLike() {
        NoughtSums x = row("30:0,1,2,6,12,13,18,19,25,29");
        due(12, "parts(1)", x.parts(1), 6);
        due(12, "parts(2)", x.parts(2), 2);
        for (int e = 0; e < 30; e++) {
            boolean in = e == 0 || e == 6 || e == 12 || e == 18 || e == 19 || e == 29;
            due(13, "part(" + e + ")", x.part(e), in ? 1 : 0);
        }
        due(14, "take()", x.take(), 6);
        stands(14, x, "30:1,2,13,25");
        x = row("30:2,3,4,5,9,15,16,22,23,26");
        due(14, "take()", x.take(), 7);
        stands(14, x, "30:4,5,23");
        due(15, "pieces()", row("30:2,3,4,5,9,15,16,22,23,26").pieces(), 1);
    }

    private static void dear() {
        // 10 times 10 times 10 times 10 times 2 is 20000, which is not above the limit.
        NoughtSums x = row("30:0x9,15x9,1x9,16x9,2");
        due(11, "primitive()", x.primitive(), 0);
        due(12, "parts(0)", x.parts(0), 99);
        due(15, "pieces()", x.pieces(), 18);
        due(13, "part(15)", x.part(15), 1);
        // One more of ROOT 2: 30000.
        x.set(2, 2);
        due(11, "primitive()", x.primitive(), DEAR);
        due(12, "parts(0)", x.parts(0), DEAR);
        due(12, "parts(1)", x.parts(1), DEAR);
        due(12, "parts(2)", x.parts(2), DEAR);
        due(12, "parts(3)", x.parts(3), NONE);
        due(13, "part(0)", x.part(0), DEAR);
        due(13, "part(30)", x.part(30), NONE);
        due(14, "take()", x.take(), DEAR);
        due(15, "pieces()", x.pieces(), DEAR);
        due(14, "weight()", x.weight(), 38);
        for (int e = 0; e < 30; e++) x.set(e, 9);
        due(11, "primitive()", x.primitive(), DEAR);
        due(10, "nought()", x.nought(), 1);
        // 20000 already without ROOT 17.
        x = row("30:0x9,1x9,15x9,16x9,2,17");
        due(12, "parts(0)", x.parts(0), DEAR);
        x = row("30:0x9,1x9,2x9,3x9,4,29");
        due(12, "parts(0)", x.parts(0), DEAR);
        // 3 to the 6th times 7 times 4 is 20412, just above.
        x = row("30:0x2,1x2,2x2,3x2,4x2,5x2,6x6,7x3");
        due(12, "parts(0)", x.parts(0), DEAR);
    }

    private static void moves() {
        NoughtSums x = row("6:0,1x2,2x3");
        due(16, "turn(1)", x.turn(1), 0);
        stands(16, x, "6:1,2x2,3x3");
        due(16, "turn(-2)", x.turn(-2), 2);
        stands(16, x, "6:0x2,1x3,5");
        due(16, "turn(0)", x.turn(0), 2);
        due(16, "turn(6)", x.turn(6), 2);
        x = row("7:0");
        due(16, "turn(LEAST)", x.turn(LEAST), 0);
        stands(16, x, "7:5");
        x = row("7:3");
        due(16, "turn(MOST)", x.turn(MOST), 0);
        stands(16, x, "7:4");

        x = row("8:0x4,1,2x2,3x3");
        due(17, "times(3)", x.times(3), 4);
        stands(17, x, "8:0x4,1x3,3,6x2");
        due(17, "times(99)", x.times(99), 4);
        stands(17, x, "8:0x4,1,2x2,3x3");
        due(17, "times(1)", x.times(1), 4);
        due(17, "times(0)", x.times(0), BAD);
        due(17, "times(100)", x.times(100), BAD);
        due(17, "times(-3)", x.times(-3), BAD);
        due(17, "times(6)", x.times(6), STATE);
        stands(17, x, "8:0x4,1,2x2,3x3");
        due(17, "times(35)", row("21:1").times(35), STATE);

        due(18, "mirror()", x.mirror(), 4);
        stands(18, x, "8:0x4,5x3,6x2,7");

        due(19, "raise(2)", x.raise(2), 4);
        stands(19, x, "8:0x4,2x3,4x2,6");
        due(19, "raise(3)", x.raise(3), NONE);
        due(19, "raise(4)", x.raise(4), NONE);
        due(19, "raise(1)", x.raise(1), NONE);
        due(19, "raise(0)", x.raise(0), NONE);
        due(19, "raise(-2)", x.raise(-2), NONE);
        due(19, "raise(8)", x.raise(8), NONE);
        x = row("6:0x5,2x4,4,1");
        due(19, "raise(3)", x.raise(3), FULL);
        stands(19, x, "6:0x5,1,2x4,4");
        x = row("6:0x5,2x3,4,1");
        due(19, "raise(3)", x.raise(3), 9);
        stands(19, x, "6:0x9,3");
        x = row("7:0x2,3,5");
        due(19, "raise(7)", x.raise(7), 4);
    }

    private static void turns() {
        NoughtSums x = row("12:0,3,6,9");
        due(20, "stays(0)", x.stays(0), 4);
        due(20, "stays(1)", x.stays(1), 3);
        due(20, "stays(2)", x.stays(2), NONE);
        due(20, "stays(-1)", x.stays(-1), NONE);
        x = row("12:0,3,6,9x2");
        due(20, "stays(0)", x.stays(0), 1);
        due(20, "stays(1)", x.stays(1), 12);
        due(20, "stays(1)", row("7:").stays(1), 1);
        due(20, "stays(0)", row("7:").stays(0), 7);

        due(21, "best()", x.best(), 3);
        due(21, "best()", row("12:0,3,6,9").best(), 0);
        due(21, "best()", row("12:1,4,7,10").best(), 2);
        due(21, "best()", row("8:3,4x2,5x2").best(), 4);
        due(21, "best()", row("8:3x2,4,6x2,7x2").best(), 2);
        due(21, "best()", row("8:").best(), 0);

        x = row("5:0,1x2");
        due(22, "alike(0)", x.alike(0), MISSING);
        due(22, "alike(3)", x.alike(3), NONE);
        due(22, "alike(-1)", x.alike(-1), NONE);
        x.film(0);
        due(22, "alike(0)", x.alike(0), 0);
        x.turn(2);
        due(22, "alike(0)", x.alike(0), 3);
        x.put(0, 4, 1);
        due(22, "alike(0)", x.alike(0), NOT);
        x.put(0, 4, 1L << 32);
        due(22, "alike(0)", x.alike(0), NOT);
        x.list(1, 6);
        due(22, "alike(1)", x.alike(1), NOT);
        x.clear();
        due(22, "alike(1)", x.alike(1), NOT);
        x.list(1, 4);
        due(22, "alike(1)", x.alike(1), NOT);
        x.list(1, 0);
        due(22, "alike(1)", x.alike(1), NOT);
        x.list(1, 5);
        due(22, "alike(1)", x.alike(1), 0);
    }

    private static void primes() {
        NoughtSums x = row("28:");
        due(23, "prime(-1)", x.prime(-1), 2);
        due(23, "prime(0)", x.prime(0), 2);
        due(23, "prime(1)", x.prime(1), 7);
        due(23, "prime(2)", x.prime(2), NONE);
        due(23, "prime(-2)", x.prime(-2), NONE);
        x.base(29);
        due(23, "prime(-1)", x.prime(-1), 1);
        due(23, "prime(0)", x.prime(0), 29);

        // 9 divides 18: the layers are every third root, as they stand.
        x = row("18:0,1x2,2x3,3x4,4x5,17x6");
        due(24, "layer(3, 0, 0)", x.layer(3, 0, 0), 1);
        due(24, "layer(3, 0, 3)", x.layer(3, 0, 3), 4);
        due(24, "layer(3, 1, 0)", x.layer(3, 1, 0), 2);
        due(24, "layer(3, 1, 3)", x.layer(3, 1, 3), 5);
        due(24, "layer(3, 2, 15)", x.layer(3, 2, 15), 6);
        due(24, "layer(3, 2, 16)", x.layer(3, 2, 16), 0);
        // 4 does not divide 18: t is 9.
        due(24, "layer(2, 0, 2)", x.layer(2, 0, 2), 3);
        due(24, "layer(2, 1, 10)", x.layer(2, 1, 10), 2);
        due(24, "layer(2, 1, 8)", x.layer(2, 1, 8), 6);
        due(24, "layer(2, 1, 9)", x.layer(2, 1, 9), 0);
        due(24, "layer(5, 0, 0)", x.layer(5, 0, 0), NONE);
        due(24, "layer(0, 0, 0)", x.layer(0, 0, 0), NONE);
        due(24, "layer(9, 0, 0)", x.layer(9, 0, 0), NONE);
        due(24, "layer(3, 3, 0)", x.layer(3, 3, 0), NONE);
        due(24, "layer(3, -1, 0)", x.layer(3, -1, 0), NONE);
        due(24, "layer(3, 0, 18)", x.layer(3, 0, 18), NONE);
        due(24, "layer(3, 0, -1)", x.layer(3, 0, -1), NONE);
        // t is 10 of N 15 and p 3.
        x = row("15:1,10x2,11x3");
        due(24, "layer(3, 1, 0)", x.layer(3, 1, 0), 2);
        due(24, "layer(3, 1, 6)", x.layer(3, 1, 6), 1);
        due(24, "layer(3, 2, 6)", x.layer(3, 2, 6), 3);
        x = row("5:3x7");
        due(24, "layer(5, 3, 0)", x.layer(5, 3, 0), 7);

        x = row("18:0,9,1,7,13");
        due(25, "layers(2, 0)", x.layers(2, 0), 1);
        due(25, "layers(3, 0)", x.layers(3, 0), 1);
        due(25, "layers(3, 1)", x.layers(3, 1), NOT);
        due(25, "layers(3, 2)", x.layers(3, 2), NONE);
        due(25, "layers(3, -1)", x.layers(3, -1), NONE);
        due(25, "layers(5, 0)", x.layers(5, 0), NONE);
        x.add(4);
        due(25, "layers(3, 0)", x.layers(3, 0), 0);
        due(25, "layers(3, 1)", x.layers(3, 1), 1);
        due(25, "layers(2, 1)", x.layers(2, 1), 1);
        x.add(0);
        due(25, "layers(3, 1)", x.layers(3, 1), 0);
        // What an earlier change worked on must not be seen in a layer.
        x = row("18:1,2x3");
        x.turn(1);
        tell(x, "18:0,9,4,10,16");
        due(25, "layers(3, 0)", x.layers(3, 0), 1);
        x = row("5:0x2,1x2,2x2,3,4x2");
        due(25, "layers(5, 1)", x.layers(5, 1), 3);
        x.set(0, 1);
        due(25, "layers(5, 1)", x.layers(5, 1), 1);
    }

    private static void weights() {
        NoughtSums x = row("15:");
        int[] holes = {1, 2, 4, 7};
        for (int k = 0; k < 4; k++) due(28, "hole", x.hole(k), holes[k]);
        due(28, "hole(4)", x.hole(4), NOT);
        due(28, "hole(MOST)", x.hole(MOST), NOT);
        due(28, "hole(-1)", x.hole(-1), NONE);
        due(26, "possible(0)", x.possible(0), 1);
        due(26, "possible(7)", x.possible(7), 0);
        due(26, "possible(8)", x.possible(8), 1);
        due(26, "possible(200)", x.possible(200), 1);
        due(26, "possible(201)", x.possible(201), BAD);
        due(26, "possible(-1)", x.possible(-1), BAD);
        due(27, "ways(0)", x.ways(0), 1);
        due(27, "ways(7)", x.ways(7), 0);
        due(27, "ways(15)", x.ways(15), 2);
        due(27, "ways(30)", x.ways(30), 3);
        due(27, "ways(201)", x.ways(201), BAD);
        due(27, "ways(-1)", x.ways(-1), BAD);
        x.base(30);
        due(27, "ways(10)", x.ways(10), 4);
        due(27, "ways(200)", x.ways(200), 701);
        x.base(29);
        due(26, "possible(174)", x.possible(174), 1);
        due(26, "possible(175)", x.possible(175), 0);
        due(28, "hole(28)", x.hole(28), 30);
        due(28, "hole(193)", x.hole(193), 200);
        due(28, "hole(194)", x.hole(194), NOT);
    }

    private static void bits() {
        NoughtSums x = row("10:1,2");
        due(29, "listed(2, -1)", x.listed(2, -1), 1);
        due(29, "listed(2, 0)", x.listed(2, 0), 33);
        due(29, "listed(2, 1)", x.listed(2, 1), NONE);
        due(29, "listed(5, -1)", x.listed(5, -1), 1);
        due(29, "listed(5, 0)", x.listed(5, 0), 341);
        due(29, "listed(4, -1)", x.listed(4, -1), 0);
        due(29, "listed(10, -1)", x.listed(10, -1), 0);
        due(29, "listed(12, -1)", x.listed(12, -1), 0);
        due(29, "listed(13, -1)", x.listed(13, -1), BAD);
        due(29, "listed(0, -1)", x.listed(0, -1), BAD);
        due(29, "listed(2, -2)", x.listed(2, -2), NONE);
        due(29, "listed(2, LEAST)", x.listed(2, LEAST), NONE);
        x.base(11);
        due(29, "listed(11, 0)", x.listed(11, 0), 2047);
        x.base(12);
        due(29, "listed(2, 0)", x.listed(2, 0), 65);
        x.base(13);
        due(29, "listed(2, -1)", x.listed(2, -1), STATE);
        due(29, "listed(13, -1)", x.listed(13, -1), BAD);
        due(29, "listed(2, -2)", x.listed(2, -2), STATE);

        due(30, "filled(1, 0)", x.filled(1, 0), STATE);
        due(30, "filled(-1, 9)", x.filled(-1, 9), STATE);
        x.base(6);
        due(30, "filled(0, 1)", x.filled(0, 1), 0);
        due(30, "filled(1, 1)", x.filled(1, 1), 9);
        due(30, "filled(5, 0)", x.filled(5, 0), 3);
        due(30, "filled(5, 1)", x.filled(5, 1), 21);
        due(30, "filled(3, 1)", x.filled(3, 1), 27);
        due(30, "filled(7, 1)", x.filled(7, 1), 63);
        due(30, "filled(63, 0)", x.filled(63, 0), 6);
        due(30, "filled(64, 0)", x.filled(64, 0), BAD);
        due(30, "filled(-1, 0)", x.filled(-1, 0), BAD);
        due(30, "filled(64, 2)", x.filled(64, 2), BAD);
        due(30, "filled(1, 2)", x.filled(1, 2), NONE);
        due(30, "filled(1, -1)", x.filled(1, -1), NONE);
        x.base(2);
        due(30, "filled(2, 1)", x.filled(2, 1), 3);
        due(30, "filled(4, 1)", x.filled(4, 1), BAD);
        x.base(12);
        // ROOTS 1 and 3 are in no pair, nor in one three: two pairs weigh least.
        due(30, "filled(10, 1)", x.filled(10, 1), 650);
    }

    private static void plans() {
        NoughtSums x = row("6:0x9,1,2x2,3x2");
        due(31, "plan(0, MOST)", x.plan(0, MOST), 1);
        due(31, "plan(1, 5)", x.plan(1, 5), 2);
        due(31, "plan(2, LEAST)", x.plan(2, LEAST), 3);
        due(31, "plan(3, 2)", x.plan(3, 2), 4);
        due(31, "plan(3, 3)", x.plan(3, 3), 5);
        due(31, "plan(4, 0)", x.plan(4, 0), NONE);
        due(31, "plan(-1, 0)", x.plan(-1, 0), NONE);
        due(31, "plan(1, 101)", x.plan(1, 101), 6);
        due(31, "plan(1, 3)", x.plan(1, 3), 7);
        due(31, "plan(0, -1)", x.plan(0, -1), 8);
        due(31, "plan(0, 1)", x.plan(0, 1), FULL);
        due(31, "plan(4, 1)", x.plan(4, 1), NONE);
        due(31, "count(2)", x.count(2), 8);
        // turned by 1, times 5 and mirrored undo each other, twice, thrice, one back.
        for (int e = 0; e < 6; e++) due(33, "where(" + e + ")", x.where(e), 5);
        due(33, "where(6)", x.where(6), NONE);
        due(33, "where(-1)", x.where(-1), NONE);
        due(33, "the row stays", x.of(0), 9);
        // Behind the turn twice brings ROOTS 1 and 4 together, thrice 1 and 3: 11 is too much each time.
        due(34, "run()", x.run(), 4);
        stands(34, x, "6:0x9,1,2x2,3x2");
        x.set(3, 0);
        due(34, "run()", x.run(), 5);
        stands(34, x, "6:1x9,3,5x2");
        due(34, "count(2)", x.count(2), 8);
        due(32, "unplan()", x.unplan(), 8);
        due(32, "unplan()", x.unplan(), 0);
        due(34, "run()", x.run(), 0);
        due(33, "where(5)", x.where(5), 5);
        x.plan(3, 5);
        x.plan(3, 1);
        x.plan(1, 0);
        x.plan(1, -1);
        due(33, "where(5)", x.where(5), 5);
        due(34, "run()", x.run(), 0);
        x.unplan();
        x.plan(1, 5);
        x.plan(0, 2);
        x.base(7);
        due(33, "where(3)", x.where(3), 3);
        due(33, "where(1)", x.where(1), 0);
        x.set(1, 4);
        due(34, "run()", x.run(), 2);
        stands(34, x, "7:0x4");
    }

    private static void shelves() {
        NoughtSums x = row("9:0,3,6x3");
        due(35, "keep(2)", x.keep(2), NONE);
        due(35, "keep(-1)", x.keep(-1), NONE);
        due(38, "lightest(0)", x.lightest(0), NOT);
        due(35, "keep(0)", x.keep(0), 0);
        tell(x, "30:29x2");
        due(35, "keep(0)", x.keep(0), 1);
        tell(x, "2:0,1");
        due(35, "keep(0)", x.keep(0), 2);
        due(36, "lay(0, 1)", x.lay(0, 1), 2);
        stands(36, x, "30:29x2");
        x.add(29);
        due(36, "lay(0, 0)", x.lay(0, 0), 5);
        stands(36, x, "9:0,3,6x3");
        due(36, "lay(0, 3)", x.lay(0, 3), NONE);
        due(36, "lay(0, -1)", x.lay(0, -1), NONE);
        due(36, "lay(1, 0)", x.lay(1, 0), NONE);
        due(36, "lay(2, 0)", x.lay(2, 0), NONE);
        due(38, "lightest(0)", x.lightest(0), 1);
        due(38, "lightest(1)", x.lightest(1), NOT);
        due(38, "lightest(2)", x.lightest(2), NONE);
        due(38, "lightest(-1)", x.lightest(-1), NONE);
        due(40, "held(0, -1)", x.held(0, -1), 3);
        due(40, "held(0, 0)", x.held(0, 0), 5);
        due(40, "held(0, 1)", x.held(0, 1), 2);
        due(40, "held(0, 3)", x.held(0, 3), NONE);
        due(40, "held(0, -2)", x.held(0, -2), NONE);
        due(40, "held(1, 0)", x.held(1, 0), NONE);
        due(40, "held(1, -1)", x.held(1, -1), 0);
        due(40, "held(2, -1)", x.held(2, -1), NONE);
        due(40, "held(-1, -1)", x.held(-1, -1), NONE);
        due(37, "drop(0, 3)", x.drop(0, 3), NONE);
        due(37, "drop(0, -1)", x.drop(0, -1), NONE);
        due(37, "drop(2, 0)", x.drop(2, 0), NONE);
        due(37, "drop(0, 0)", x.drop(0, 0), 2);
        due(36, "lay(0, 1)", x.lay(0, 1), 2);
        stands(37, x, "2:0,1");
        due(36, "lay(0, 0)", x.lay(0, 0), 2);
        stands(37, x, "30:29x2");
        due(37, "drop(0, 1)", x.drop(0, 1), 1);
        due(37, "drop(0, 0)", x.drop(0, 0), 0);
        due(37, "drop(0, 0)", x.drop(0, 0), NONE);
        for (int k = 0; k < 8; k++) due(35, "keep(1)", x.keep(1), k);
        due(35, "keep(1)", x.keep(1), FULL);
        due(35, "keep(0)", x.keep(0), 0);
        due(37, "drop(1, 0)", x.drop(1, 0), 7);
        x.base(3);
        due(35, "keep(1)", x.keep(1), 7);
        due(37, "drop(1, 7)", x.drop(1, 7), 7);
        due(37, "held(1, 6)", x.held(1, 6), 2);
    }

    private static void pouring() {
        NoughtSums x = row("6:0");
        for (int k = 0; k < 3; k++) {
            x.set(1, k);
            x.keep(0);
        }
        x.set(1, 9);
        x.keep(1);
        due(39, "pour(0, 2)", x.pour(0, 2), NONE);
        due(39, "pour(2, 0)", x.pour(2, 0), NONE);
        due(39, "pour(-1, -1)", x.pour(-1, -1), NONE);
        due(39, "pour(2, 2)", x.pour(2, 2), NONE);
        due(39, "pour(1, 1)", x.pour(1, 1), STATE);
        due(39, "pour(0, 1)", x.pour(0, 1), 4);
        due(39, "held(0, -1)", x.held(0, -1), 0);
        int[] weights = {10, 1, 2, 3};
        for (int k = 0; k < 4; k++) due(39, "held", x.held(1, k), weights[k]);
        due(39, "pour(0, 1)", x.pour(0, 1), 4);
        for (int k = 0; k < 4; k++) x.keep(0);
        due(39, "pour(0, 1)", x.pour(0, 1), 8);
        x.keep(0);
        due(39, "pour(0, 1)", x.pour(0, 1), FULL);
        due(39, "pour(1, 0)", x.pour(1, 0), FULL);
        due(39, "count(4)", x.count(4), 9);
        due(39, "pour(1, 1)", x.pour(1, 1), STATE);
        x.drop(0, 0);
        due(39, "pour(1, 0)", x.pour(1, 0), 8);
        due(39, "held(0, 3)", x.held(0, 3), 3);
    }

    private static void lists() {
        NoughtSums x = row("6:0,5x7");
        due(41, "list(3, 1)", x.list(3, 1), NONE);
        due(41, "list(-1, 31)", x.list(-1, 31), NONE);
        due(41, "list(0, 31)", x.list(0, 31), BAD);
        due(41, "list(0, -2)", x.list(0, -2), BELOW);
        due(43, "get(0, 0)", x.get(0, 0), VOID);
        due(42, "put(0, 0, 1)", x.put(0, 0, 1), MISSING);
        due(42, "put(3, 0, 1)", x.put(3, 0, 1), NONE);
        due(42, "put(-1, 0, 1)", x.put(-1, 0, 1), NONE);
        due(41, "list(0, 30)", x.list(0, 30), 1);
        due(42, "put(0, 30, 1)", x.put(0, 30, 1), PLACE);
        due(42, "put(0, -1, 1)", x.put(0, -1, 1), PLACE);
        due(42, "put(0, 29, ..)", x.put(0, 29, Long.MAX_VALUE), 1);
        due(43, "get(0, 29)", x.get(0, 29), Long.MAX_VALUE);
        due(43, "get(0, 28)", x.get(0, 28), 0);
        due(43, "get(0, 30)", x.get(0, 30), VOID);
        due(43, "get(0, -1)", x.get(0, -1), VOID);
        due(43, "get(3, 0)", x.get(3, 0), VOID);
        due(43, "get(-1, 0)", x.get(-1, 0), VOID);
        due(41, "list(0, 30)", x.list(0, 30), 1);
        due(41, "get(0, 29)", x.get(0, 29), 0);
        due(41, "list(0, 0)", x.list(0, 0), 1);
        due(42, "put(0, 0, 1)", x.put(0, 0, 1), PLACE);
        due(51, "count(5)", x.count(5), 1);
        due(41, "list(0, -1)", x.list(0, -1), 1);
        due(42, "put(0, 0, 1)", x.put(0, 0, 1), MISSING);
        due(51, "count(5)", x.count(5), 0);
        due(44, "film(2)", x.film(2), 6);
        due(44, "get(2, 0)", x.get(2, 0), 1);
        due(44, "get(2, 5)", x.get(2, 5), 7);
        due(44, "get(2, 6)", x.get(2, 6), VOID);
        x.base(3);
        due(44, "get(2, 5)", x.get(2, 5), 7);
        due(44, "film(2)", x.film(2), 3);
        due(44, "get(2, 3)", x.get(2, 3), VOID);
        due(44, "film(3)", x.film(3), NONE);
        due(44, "film(-1)", x.film(-1), NONE);
        x.base(30);
        x.set(29, 4);
        due(44, "film(1)", x.film(1), 30);
        due(44, "get(1, 29)", x.get(1, 29), 4);
    }

    private static void tape() {
        NoughtSums x = new NoughtSums();
        due(45, "feed(31)", x.feed(31), BAD);
        due(45, "feed(127)", x.feed(127), BAD);
        due(45, "feed(-1)", x.feed(-1), BAD);
        due(45, "feed(32)", x.feed(32), 1);
        due(45, "feed(126)", x.feed(126), 2);
        due(46, "wipe()", x.wipe(), 2);
        due(46, "wipe()", x.wipe(), 0);
        for (int i = 1; i <= 100; i++) due(45, "feed", x.feed(54), i);
        due(45, "feed(54)", x.feed(54), FULL);
        due(45, "feed(31)", x.feed(31), BAD);
        due(46, "wipe()", x.wipe(), 100);
        // 100 bytes that are a TEXT to the last one; ROOT 23 comes twice, with 9 together.
        StringBuilder text = new StringBuilder("30:");
        for (int i = 0; i < 32; i++) text.append(i == 0 ? "" : ",").append(10 + i % 18);
        text.append("x8");
        due(45, "the text is long", text.length(), 100);
        due(47, "read()", tell(x, text.toString()), 39);
    }

    private static void texts() {
        Object[][] texts = {
            {"", -100}, {"6", -101}, {"6:", 0}, {"30:29x9", 9}, {"02:00,01x3", 4}, {"2:0x1", 1}, {"6:0,0x2,0", 4},
            {"6:0x4,0x5", 9}, {"6:0x4,0x6", WRONG}, {"6:0x9,0x9,0x9,0x9", WRONG}, {"6:6", WRONG}, {"6:99", WRONG},
            {"1:0", WRONG}, {"0:", WRONG}, {"31:", WRONG}, {"99:99x9", WRONG}, {"00:", WRONG},
            {"123:0", -102}, {"6:012", -104}, {"6:0x0", -104}, {"6:0x12", -105}, {"6:0x", -104}, {"6:0x1x1", -105},
            {"6:0,", -104}, {"6:,0", -102}, {"6:0,,1", -104}, {":0", -100}, {"x", -100}, {"6 :0", -101},
            {"6:0 ", -103}, {" 6:0", -100}, {"6:0X2", -103}, {"6::0", -102}, {"6:0:", -103}, {"6:-1", -102},
            {"1:0,", -104}, {"6:7,x", -104}, {"6:0x9,0x9,0xx", -112}, {"6,0", -101}, {"6:0;1", -103}};
        for (Object[] text : texts) {
            NoughtSums x = row("5:4x3");
            int want = (Integer) text[1];
            due(47, "read of '" + text[0] + "'", tell(x, (String) text[0]), want);
            due(47, "the tape behind '" + text[0] + "'", x.count(3), 0);
            if (want < 0) stands(47, x, "5:4x3");
        }
        NoughtSums x = row("30:29x9");
        tell(x, "12:3,1x2,3x4");
        stands(47, x, "12:1x2,3x5");
        due(47, "read()", x.read(), -100);
        stands(47, x, "12:1x2,3x5");
    }

    private static void spelling() {
        NoughtSums x = row("6:");
        due(48, "spelled(-1)", x.spelled(-1), 2);
        due(48, "spelled(0)", x.spelled(0), '6');
        due(48, "spelled(1)", x.spelled(1), ':');
        due(48, "spelled(2)", x.spelled(2), NONE);
        due(48, "spelled(-2)", x.spelled(-2), NONE);
        due(48, "spelled(MOST)", x.spelled(MOST), NONE);
        stands(48, row("30:10x9,9x2,0,29"), "30:0,9x2,10x9,29");
        x.base(30);
        for (int e = 0; e < 30; e++) x.set(e, 9);
        due(48, "spelled(-1)", x.spelled(-1), 142);
        due(48, "spelled(141)", x.spelled(141), '9');
        due(48, "spelled(142)", x.spelled(142), NONE);
    }

    private static void image() {
        NoughtSums x = row("9:1x2");
        due(50, "undo()", x.undo(), STATE);
        stands(50, x, "9:1x2");
        x.plan(0, 1);
        x.keep(0);
        x.film(0);
        x.feed(65);
        due(49, "image()", x.image(), 2);
        tell(x, "6:0,1x8");
        x.unplan();
        x.plan(2, 0);
        x.plan(2, 0);
        x.keep(0);
        x.drop(0, 0);
        x.keep(1);
        x.list(0, -1);
        x.film(1);
        x.feed(66);
        x.feed(66);
        due(50, "undo()", x.undo(), 2);
        stands(50, x, "9:1x2");
        due(50, "count(2)", x.count(2), 1);
        due(50, "where(0)", x.where(0), 1);
        due(50, "held(0, -1)", x.held(0, -1), 1);
        due(50, "held(0, 0)", x.held(0, 0), 2);
        due(50, "held(1, -1)", x.held(1, -1), 0);
        due(50, "the lists are not in it", x.get(0, 1), VOID);
        due(50, "the lists are not in it", x.get(1, 1), 8);
        due(50, "the tape is not in it", x.count(3), 2);
        // The image stays, whatever is done behind it, until another is taken.
        x.add(1);
        x.keep(0);
        x.lay(0, 0);
        x.add(2);
        due(50, "undo()", x.undo(), 2);
        due(50, "held(0, -1)", x.held(0, -1), 1);
        x.base(4);
        due(49, "image()", x.image(), 0);
        x.base(5);
        due(50, "undo()", x.undo(), 0);
        due(50, "count(0)", x.count(0), 4);
    }

    private static void counts() {
        NoughtSums x = row("7:0x3,1,6");
        x.plan(0, 0);
        x.feed(50);
        x.keep(0);
        x.keep(0);
        x.keep(1);
        x.list(0, 0);
        x.list(2, 3);
        int[] due = {7, 3, 1, 1, 3, 2};
        for (int what = 0; what < 6; what++) due(51, "count(" + what + ")", x.count(what), due[what]);
        due(51, "count(6)", x.count(6), NONE);
        due(51, "count(-1)", x.count(-1), NONE);
    }

    private static void constants() {
        due(0, "NONE", NoughtSums.NONE, NONE);
        due(0, "BAD", NoughtSums.BAD, BAD);
        due(0, "STATE", NoughtSums.STATE, STATE);
        due(0, "FULL", NoughtSums.FULL, FULL);
        due(0, "NOT", NoughtSums.NOT, NOT);
        due(0, "DEAR", NoughtSums.DEAR, DEAR);
        due(0, "MISSING", NoughtSums.MISSING, MISSING);
        due(0, "PLACE", NoughtSums.PLACE, PLACE);
        due(0, "BELOW", NoughtSums.BELOW, BELOW);
        due(0, "VOID", NoughtSums.VOID, VOID);
    }
}
