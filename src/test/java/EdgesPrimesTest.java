/** Edges of promises 23 to 30: primes and layers, weights, rows listed and filled. */
public final class EdgesPrimesTest extends Edges {
    public static void main(String[] args) throws Exception {
        runAll(EdgesPrimesTest.class, 23, 30);
    }

    private static NoughtSums made(int n) {
        NoughtSums x = new NoughtSums();
        x.base(n);
        return x;
    }

    // ---- 23 prime

    private static void p23OnePrimeAlone() {
        int[][] powers = {{2, 2}, {3, 3}, {4, 2}, {5, 5}, {8, 2}, {9, 3}, {16, 2}, {25, 5}, {27, 3}, {29, 29}};
        for (int[] power : powers) {
            NoughtSums x = made(power[0]);
            due("prime(-1)", x.prime(-1), 1);
            due("prime(0)", x.prime(0), power[1]);
            due("prime(1)", x.prime(1), NONE);
        }
    }

    private static void p23TheMostPrimes() {
        NoughtSums x = made(30);
        due("prime(-1)", x.prime(-1), 3);
        due("prime(0)", x.prime(0), 2);
        due("prime(1)", x.prime(1), 3);
        due("prime(2)", x.prime(2), 5);
        due("prime(3)", x.prime(3), NONE);
    }

    private static void p23TheyRise() {
        NoughtSums x = made(28);
        due("prime(0)", x.prime(0), 2);
        due("prime(1)", x.prime(1), 7);
        x.base(26);
        due("prime(0)", x.prime(0), 2);
        due("prime(1)", x.prime(1), 13);
    }

    private static void p23BelowLessOneAndAboveTheLast() {
        for (int i : new int[] {LEAST, -3, -2, 2, 3, 5, 256, MOST}) {
            leaves("6:1x2", "prime(" + i + ")", x -> x.prime(i), NONE);
        }
        leaves("6:1x2", "prime(-1)", x -> x.prime(-1), 2);
        leaves("6:1x2", "prime(1)", x -> x.prime(1), 3);
    }

    // ---- 24 layer

    private static void p24NoPrimeOfN() {
        for (int p : new int[] {LEAST, -3, -2, -1, 0, 1, 4, 5, 6, 7, 9, 12, 13, MOST}) {
            leaves("12:0,1,2", "layer(" + p + ", 0, 0)", x -> x.layer(p, 0, 0), NONE);
        }
    }

    private static void p24TheFirstAndTheLastLayer() {
        NoughtSums x = row("15:0x2,1x3,2x4,3x5,4x6,14x9");
        due("layer(5, 0, 0)", x.layer(5, 0, 0), 2);
        // t is 6: ROOT 14 of LAYER 4 comes to 14 less 24 modulo 15.
        due("layer(5, 4, 5)", x.layer(5, 4, 5), 9);
        due("layer(5, 4, 10)", x.layer(5, 4, 10), 6);
        for (int j : new int[] {LEAST, -1, 5, 6, 15, MOST}) {
            leaves("15:0x2,14x9", "layer(5, " + j + ", 0)", y -> y.layer(5, j, 0), NONE);
        }
        for (int j : new int[] {-1, 3, 4}) {
            leaves("15:0x2,14x9", "layer(3, " + j + ", 0)", y -> y.layer(3, j, 0), NONE);
        }
    }

    private static void p24TheFirstAndTheLastRoot() {
        due("layer(3, 0, 0)", row("9:0x7").layer(3, 0, 0), 7);
        due("layer(3, 2, 8)", row("9:8x7").layer(3, 2, 8), 0);
        due("layer(3, 2, 6)", row("9:8x7").layer(3, 2, 6), 7);
        for (int e : new int[] {LEAST, -3, -1, 9, 10, 12, MOST}) {
            leaves("9:0x7,8x2", "layer(3, 0, " + e + ")", x -> x.layer(3, 0, e), NONE);
        }
    }

    private static void p24TheSquareDividesN() {
        // Each root of LAYER j comes down by j, and none goes around.
        for (int[] pair : new int[][] {{4, 2}, {8, 2}, {9, 3}, {12, 2}, {18, 3}, {25, 5}, {27, 3}, {28, 2}}) {
            int n = pair[0];
            int p = pair[1];
            for (int e = 0; e < n; e++) holdsAlone(n, p, e, e - e % p);
        }
    }

    private static void p24TheSquareDoesNot() {
        // N, p, t: 1 modulo p and 0 modulo N over p, of 1 to N.
        int[][] told = {{2, 2, 1}, {29, 29, 1}, {6, 2, 3}, {6, 3, 4}, {12, 3, 4}, {18, 2, 9}, {10, 5, 6}, {15, 3, 10},
            {15, 5, 6}, {21, 7, 15}, {28, 7, 8}, {30, 2, 15}, {30, 3, 10}, {30, 5, 6}};
        for (int[] t : told) {
            int n = t[0];
            int p = t[1];
            for (int e = 0; e < n; e++) holdsAlone(n, p, e, Math.floorMod(e - e % p * t[2], n));
        }
    }

    /** A row with ROOT e alone has it in one LAYER alone, at one ROOT alone. */
    private static void holdsAlone(int n, int p, int e, int at) {
        NoughtSums x = row(n + ":" + e + "x9");
        for (int to = 0; to < n; to++) due("layer of " + n + ", " + p, x.layer(p, e % p, to), to == at ? 9 : 0);
        int other = (e + 1) % p;
        due("another layer", x.layer(p, other, at), 0);
    }

    /** All roots of a LAYER come to multiples of p, be the row ever so full. */
    private static void p24BesideTheMultiplesOfThePrimeIsNothing() {
        for (int n : new int[] {2, 6, 9, 12, 25, 29, 30}) {
            NoughtSums x = made(n);
            for (int e = 0; e < n; e++) x.set(e, 9);
            int p = x.prime(x.prime(-1) - 1);
            for (int j : new int[] {0, 1, p - 1}) {
                for (int e = 0; e < n; e++) due("layer of " + n + ", " + p, x.layer(p, j, e), e % p == 0 ? 9 : 0);
            }
        }
    }

    private static void p24NothingHasEmptyLayers() {
        NoughtSums x = row("12:");
        for (int e = 0; e < 12; e++) {
            for (int j = 0; j < 3; j++) due("layer", x.layer(3, j, e), 0);
        }
    }

    // ---- 25 layers

    private static void p25NoPrimeOfN() {
        for (int p : new int[] {LEAST, -2, -1, 0, 1, 4, 5, 6, 12, MOST}) {
            leaves("12:0,6", "layers(" + p + ", 0)", x -> x.layers(p, 0), NONE);
            leaves("12:0,6", "layers(" + p + ", 1)", x -> x.layers(p, 1), NONE);
        }
    }

    private static void p25WhatIsNoughtOrOne() {
        for (int what : new int[] {LEAST, -2, -1, 2, 3, MOST}) {
            leaves("12:0,6", "layers(2, " + what + ")", x -> x.layers(2, what), NONE);
        }
        leaves("12:0,6", "layers(2, 0)", x -> x.layers(2, 0), 1);
        leaves("12:0,6", "layers(2, 1)", x -> x.layers(2, 1), NOT);
    }

    private static void p25NothingIsNoughtByAllLayers() {
        for (int n = 2; n <= 30; n++) {
            NoughtSums x = made(n);
            for (int i = 0; i < x.prime(-1); i++) {
                due("layers(p, 0)", x.layers(x.prime(i), 0), 1);
                due("layers(p, 1)", x.layers(x.prime(i), 1), NOT);
            }
        }
    }

    private static void p25TheFirstLayerAloneIsOdd() {
        // Where the square divides, LAYER 0 itself may be the odd one; else it is its own measure.
        due("layers(3, 1)", row("9:0").layers(3, 1), 0);
        due("layers(3, 1)", row("6:0").layers(3, 1), 1);
        due("layers(29, 1)", row("29:0").layers(29, 1), 1);
        due("layers(29, 0)", row("29:0").layers(29, 0), 0);
    }

    private static void p25TheLastLayerAloneIsOdd() {
        due("layers(3, 1)", row("9:8").layers(3, 1), 2);
        due("layers(3, 1)", row("6:2").layers(3, 1), 2);
        due("layers(29, 1)", row("29:28").layers(29, 1), 28);
        due("layers(5, 1)", row("25:24x9").layers(5, 1), 4);
        due("layers(2, 1)", row("2:1").layers(2, 1), 1);
    }

    private static void p25OfManyOddOnesTheFirst() {
        due("layers(3, 1)", row("9:1,2").layers(3, 1), 1);
        due("layers(5, 1)", row("5:0x2,1x2,2,3,4").layers(5, 1), 2);
    }

    private static void p25LayersThatAreAlikeButOfOtherRoots() {
        // LAYERS 0 and 1 of N 6 by 2 have other roots with the same REST: 0 is less 2 and 4 together.
        NoughtSums x = row("6:0,3");
        due("layers(2, 0)", x.layers(2, 0), 1);
        due("layers(3, 0)", x.layers(3, 0), 1);
        x = row("6:0,2,4,1,3,5");
        due("layers(2, 0)", x.layers(2, 0), 1);
        x = row("6:0,2,4");
        due("layers(2, 0)", x.layers(2, 0), 1);
        due("layers(3, 0)", x.layers(3, 0), 1);
    }

    /** What another call worked on before must not be seen in a layer. */
    private static void p25NothingIsLeftFromBefore() {
        NoughtSums x = row("18:1,2x3");
        x.turn(1);
        tell(x, "18:0,9,4,10,16");
        due("layers(3, 0)", x.layers(3, 0), 1);
        tell(x, "30:1x9,29x9");
        x.turn(1);
        due("layers(5, 0)", x.layers(5, 0), 0);
        tell(x, "9:0,3,6");
        due("layers(3, 0)", x.layers(3, 0), 1);
    }

    private static void p25AsNoughtTells() {
        for (int n = 2; n <= 30; n++) {
            for (int extra = 0; extra < 2; extra++) {
                NoughtSums x = made(n);
                for (int e = 0; e < n; e++) x.set(e, 8);
                if (extra == 1) x.add(n - 1);
                int primes = x.prime(-1);
                for (int i = 0; i < primes; i++) due("layers", x.layers(x.prime(i), 0), 1 - extra);
                due("nought()", x.nought(), 1 - extra);
            }
        }
    }

    // ---- 26 possible

    private static void p26NoughtIs() {
        for (int n = 2; n <= 30; n++) due("possible(0)", made(n).possible(0), 1);
    }

    private static void p26OneIsNot() {
        for (int n = 2; n <= 30; n++) due("possible(1)", made(n).possible(1), 0);
    }

    private static void p26NoughtToTwoHundred() {
        leaves("6:1", "possible(0)", x -> x.possible(0), 1);
        leaves("6:1", "possible(200)", x -> x.possible(200), 1);
        due("possible(200)", made(3).possible(200), 0);
        due("possible(200)", made(29).possible(200), 0);
        for (int w : new int[] {LEAST, -2, -1, 201, 202, 256, MOST}) {
            leaves("6:1", "possible(" + w + ")", x -> x.possible(w), BAD);
        }
    }

    private static void p26ThePrimesThemselvesAre() {
        for (int n = 2; n <= 30; n++) {
            NoughtSums x = made(n);
            int least = x.prime(0);
            due("possible(the least prime)", x.possible(least), 1);
            due("possible(below it)", x.possible(least - 1), 0);
        }
        due("possible(6)", made(7).possible(6), 0);
        due("possible(8)", made(7).possible(8), 0);
        due("possible(196)", made(7).possible(196), 1);
    }

    private static void p26TheLastHole() {
        // 5 times 3 less 5 less 3, and so on: the last number that is not POSSIBLE.
        int[][] last = {{15, 7}, {6, 1}, {10, 3}, {14, 5}, {21, 11}, {22, 9}, {26, 11}, {30, 1}};
        for (int[] pair : last) {
            NoughtSums x = made(pair[0]);
            due("possible(the last hole)", x.possible(pair[1]), 0);
            for (int w = pair[1] + 1; w <= 200; w++) due("possible(" + w + ")", x.possible(w), 1);
        }
    }

    // ---- 27 ways

    private static void p27NoughtIsOneWay() {
        for (int n = 2; n <= 30; n++) due("ways(0)", made(n).ways(0), 1);
    }

    private static void p27NoWayAtAll() {
        for (int n = 2; n <= 30; n++) due("ways(1)", made(n).ways(1), 0);
        due("ways(7)", made(15).ways(7), 0);
        due("ways(199)", made(2).ways(199), 0);
    }

    private static void p27NoughtToTwoHundred() {
        leaves("30:1", "ways(0)", x -> x.ways(0), 1);
        leaves("30:1", "ways(200)", x -> x.ways(200), 701);
        due("ways(200)", made(6).ways(200), 34);
        due("ways(200)", made(2).ways(200), 1);
        for (int w : new int[] {LEAST, -2, -1, 201, 202, 256, MOST}) {
            leaves("30:1", "ways(" + w + ")", x -> x.ways(w), BAD);
        }
    }

    private static void p27TheOrderDoesNotTell() {
        due("ways(5)", made(6).ways(5), 1);
        due("ways(6)", made(6).ways(6), 2);
        due("ways(10)", made(30).ways(10), 4);
    }

    private static void p27AnotherNHasOtherWays() {
        NoughtSums x = made(30);
        due("ways(30)", x.ways(30), 21);
        x.base(29);
        due("ways(30)", x.ways(30), 0);
        due("ways(29)", x.ways(29), 1);
        x.base(6);
        due("ways(30)", x.ways(30), 6);
    }

    // ---- 28 hole

    private static void p28TheFirstIsOne() {
        for (int n = 2; n <= 30; n++) due("hole(0)", made(n).hole(0), 1);
    }

    private static void p28BelowNought() {
        for (int k : new int[] {LEAST, -2, -1}) leaves("6:1", "hole(" + k + ")", x -> x.hole(k), NONE);
    }

    private static void p28NotSoMany() {
        leaves("6:1", "hole(0)", x -> x.hole(0), 1);
        for (int k : new int[] {1, 2, 200, 256, MOST}) leaves("6:1", "hole(" + k + ")", x -> x.hole(k), NOT);
    }

    private static void p28TheLastOfEach() {
        // N, how many holes of 1 to 200, the last one.
        int[][] last = {{2, 100, 199}, {3, 134, 200}, {7, 172, 200}, {11, 182, 200}, {5, 160, 199}, {25, 160, 199},
            {29, 194, 200}, {15, 4, 7}, {21, 6, 11}, {30, 1, 1}};
        for (int[] told : last) {
            NoughtSums x = made(told[0]);
            due("the last hole of " + told[0], x.hole(told[1] - 1), told[2]);
            due("behind the last hole of " + told[0], x.hole(told[1]), NOT);
        }
    }

    private static void p28NoughtIsNoHole() {
        due("hole(0)", made(2).hole(0), 1);
        due("hole(1)", made(2).hole(1), 3);
    }

    // ---- 29 listed

    private static void p29WeightOneToTwelve() {
        for (int w : new int[] {LEAST, -1, 0, 13, 14, 256, MOST}) {
            leaves("12:1", "listed(" + w + ", -1)", x -> x.listed(w, -1), BAD);
            leaves("12:1", "listed(" + w + ", 0)", x -> x.listed(w, 0), BAD);
        }
        leaves("12:1", "listed(1, -1)", x -> x.listed(1, -1), 0);
        leaves("12:1", "listed(12, -1)", x -> x.listed(12, -1), 0);
        leaves("11:1", "listed(11, 0)", x -> x.listed(11, 0), 2047);
        leaves("11:1", "listed(12, -1)", x -> x.listed(12, -1), 0);
    }

    private static void p29NTwelveAtMost() {
        leaves("12:1", "listed(2, 0)", x -> x.listed(2, 0), 65);
        leaves("13:1", "listed(2, 0)", x -> x.listed(2, 0), STATE);
        leaves("13:1", "listed(2, -1)", x -> x.listed(2, -1), STATE);
        leaves("30:1", "listed(2, -1)", x -> x.listed(2, -1), STATE);
    }

    private static void p29TheLeastN() {
        NoughtSums x = made(2);
        due("listed(2, -1)", x.listed(2, -1), 1);
        due("listed(2, 0)", x.listed(2, 0), 3);
        due("listed(2, 1)", x.listed(2, 1), NONE);
        due("listed(1, -1)", x.listed(1, -1), 0);
        due("listed(3, -1)", x.listed(3, -1), 0);
    }

    private static void p29BelowLessOneAndBehindTheLast() {
        for (int k : new int[] {LEAST, -3, -2, 1, 2, 100, MOST}) {
            leaves("12:1", "listed(2, " + k + ")", x -> x.listed(2, k), NONE);
        }
        leaves("12:1", "listed(4, 0)", x -> x.listed(4, 0), NONE);
    }

    private static void p29BadGoesBeforeStateBeforeNone() {
        leaves("13:1", "listed(0, -2)", x -> x.listed(0, -2), BAD);
        leaves("13:1", "listed(13, -2)", x -> x.listed(13, -2), BAD);
        leaves("13:1", "listed(2, -2)", x -> x.listed(2, -2), STATE);
        leaves("12:1", "listed(13, -2)", x -> x.listed(13, -2), BAD);
    }

    private static void p29TheRowItselfDoesNotMatter() {
        due("listed(3, 0)", row("12:0x9,11x9").listed(3, 0), 1 + 16 + 256);
        due("listed(3, 0)", row("12:").listed(3, 0), 1 + 16 + 256);
    }

    private static void p29OfTurnedOnesTheLeast() {
        for (int n = 2; n <= 12; n++) {
            NoughtSums x = made(n);
            for (int i = 0; i < x.prime(-1); i++) {
                int p = x.prime(i);
                int bits = 0;
                for (int j = 0; j < p; j++) bits |= 1 << j * n / p;
                due("listed(" + p + ", 0) of " + n, x.listed(p, 0), bits);
                due("listed(" + p + ", -1) of " + n, x.listed(p, -1), 1);
            }
        }
    }

    private static void p29AnotherNHasOthers() {
        NoughtSums x = made(12);
        due("listed(2, 0) of 12", x.listed(2, 0), 65);
        x.base(6);
        due("listed(2, 0) of 6", x.listed(2, 0), 9);
        due("listed(3, -1) of 6", x.listed(3, -1), 1);
        x.base(7);
        due("listed(2, -1) of 7", x.listed(2, -1), 0);
        due("listed(7, 0) of 7", x.listed(7, 0), 127);
        x.base(13);
        due("listed(7, 0) of 13", x.listed(7, 0), STATE);
        x.base(12);
        due("listed(7, -1) of 12", x.listed(7, -1), 0);
    }

    private static void p29NoRowOfAnNBeforeIsLeft() {
        for (int before = 2; before <= 12; before++) {
            for (int n = 2; n <= 12; n++) {
                NoughtSums x = made(before);
                x.listed(2, 0);
                x.base(n);
                for (int w = 1; w <= 12; w++) {
                    boolean isPrime = n % w == 0 && (w == 2 || w == 3 || w == 5 || w == 7 || w == 11);
                    due("listed(" + w + ", -1) of " + n + " behind " + before, x.listed(w, -1), isPrime ? 1 : 0);
                }
            }
        }
    }

    // ---- 30 filled

    private static void p30NothingTold() {
        for (int n = 2; n <= 12; n++) {
            due("filled(0, 0)", made(n).filled(0, 0), 0);
            due("filled(0, 1)", made(n).filled(0, 1), 0);
        }
    }

    private static void p30AllTold() {
        for (int n = 2; n <= 12; n++) {
            due("filled(all, 0)", made(n).filled((1 << n) - 1, 0), n);
            due("filled(all, 1)", made(n).filled((1 << n) - 1, 1), (1 << n) - 1);
        }
    }

    private static void p30SetsThatAreNone() {
        for (int n = 2; n <= 12; n++) {
            int behind = 1 << n;
            leaves(n + ":1", "filled(2 to the N, 0)", x -> x.filled(behind, 0), BAD);
            leaves(n + ":1", "filled(2 to the N and 1, 1)", x -> x.filled(behind + 1, 1), BAD);
        }
        for (int set : new int[] {LEAST, LEAST + 1, -64, -1, 64, 65, 128, 1 << 30, MOST}) {
            leaves("6:1", "filled(" + set + ", 0)", x -> x.filled(set, 0), BAD);
        }
    }

    private static void p30NTwelveAtMost() {
        leaves("12:1", "filled(1, 1)", x -> x.filled(1, 1), 65);
        leaves("13:1", "filled(1, 1)", x -> x.filled(1, 1), STATE);
        leaves("30:1", "filled(0, 0)", x -> x.filled(0, 0), STATE);
    }

    private static void p30WhatIsNoughtOrOne() {
        for (int what : new int[] {LEAST, -2, -1, 2, 3, 256, MOST}) {
            leaves("6:1", "filled(1, " + what + ")", x -> x.filled(1, what), NONE);
        }
        leaves("6:1", "filled(1, 0)", x -> x.filled(1, 0), 2);
        leaves("6:1", "filled(1, 1)", x -> x.filled(1, 1), 9);
    }

    private static void p30StateGoesBeforeBadBeforeNone() {
        leaves("13:1", "filled(-1, 2)", x -> x.filled(-1, 2), STATE);
        leaves("13:1", "filled(1, 2)", x -> x.filled(1, 2), STATE);
        leaves("12:1", "filled(4096, 2)", x -> x.filled(4096, 2), BAD);
        leaves("12:1", "filled(-1, -1)", x -> x.filled(-1, -1), BAD);
        leaves("12:1", "filled(4095, 2)", x -> x.filled(4095, 2), NONE);
    }

    private static void p30WhatIsNoughtAlreadyStays() {
        due("filled(9, 1)", made(6).filled(9, 1), 9);
        due("filled(21, 1)", made(6).filled(21, 1), 21);
        due("filled(27, 1)", made(6).filled(27, 1), 27);
    }

    /** No set of N 12 at most is filled in two ways of least WEIGHT, so like ones can not be told apart. */
    private static void p30OfLeastWeight() {
        NoughtSums x = made(10);
        // Two pairs weigh 4, a five 5, three pairs 6.
        due("filled(5, 1)", x.filled(5, 1), 5 | 5 << 5);
        due("filled(21, 1)", x.filled(21, 1), 341);
        due("filled(21, 0)", x.filled(21, 0), 5);
        // A pair weighs less than a three, a three less than two pairs.
        x = made(12);
        due("filled(1, 1)", x.filled(1, 1), 65);
        due("filled(17, 1)", x.filled(17, 1), 273);
        due("filled(1 + 16 + 64, 1)", x.filled(81, 1), 81 | 1 << 10);
        due("filled(1 + 2 + 16, 0)", x.filled(19, 0), 5);
    }

    private static void p30AnotherNIsFilledAnew() {
        NoughtSums x = made(12);
        due("filled(1, 1) of 12", x.filled(1, 1), 65);
        x.base(6);
        due("filled(1, 1) of 6", x.filled(1, 1), 9);
        x.base(7);
        due("filled(1, 1) of 7", x.filled(1, 1), 127);
        x.base(2);
        due("filled(1, 1) of 2", x.filled(1, 1), 3);
        x.base(12);
        due("filled(3, 1) of 12", x.filled(3, 1), 195);
    }

    /** Nothing that an N before could be filled with is there for the N that is now. */
    private static void p30NoRowOfAnNBeforeIsLeft() {
        for (int before = 2; before <= 12; before++) {
            for (int n = 2; n <= 12; n++) {
                NoughtSums x = made(before);
                x.filled(1, 1);
                x.base(n);
                NoughtSums fresh = made(n);
                for (int a = 0; a < n; a++) {
                    for (int b = a; b < n; b++) {
                        int set = 1 << a | 1 << b;
                        due("filled(" + set + ", 1) of " + n + " behind " + before, x.filled(set, 1), fresh.filled(set, 1));
                    }
                }
            }
        }
        NoughtSums x = made(10);
        due("filled(264, 1) of 10", x.filled(264, 1), 264);
        x.base(9);
        due("filled(264, 1) of 9", x.filled(264, 1), 1 + 8 + 64 + 4 + 32 + 256);
    }

    private static void p30TheRowItselfDoesNotMatter() {
        due("filled(1, 1)", row("12:0x9,11x9").filled(1, 1), 65);
        due("filled(0, 1)", row("12:0x9,11x9").filled(0, 1), 0);
    }
}
