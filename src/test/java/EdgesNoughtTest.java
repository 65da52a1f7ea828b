import java.util.ArrayList;
import java.util.List;

/** Edges of promises 8 to 15: PHI and REST, nought, and the parts of a row. */
public final class EdgesNoughtTest extends Edges {
    /** 10 times 10 times 10 times 10 times 2 is 20000: the last that is not DEAR. */
    private static final String LAST_CHEAP = "30:0x9,1x9,15x9,16x9,2";
    /** 10 times 9 times 8 times 7 times 4 is 20160: no row comes between. */
    private static final String FIRST_DEAR = "30:0x9,1x8,15x7,16x6,2x3";

    public static void main(String[] args) throws Exception {
        runAll(EdgesNoughtTest.class, 8, 15);
    }

    private static NoughtSums allOf(int n, int c) {
        NoughtSums x = new NoughtSums();
        x.base(n);
        for (int e = 0; e < n; e++) x.set(e, c);
        return x;
    }

    // ---- 8 phi

    private static void p08TheLeastN() {
        NoughtSums x = row("2:");
        due("phi(-1)", x.phi(-1), 1);
        due("phi(0)", x.phi(0), 1);
        due("phi(1)", x.phi(1), 1);
        due("phi(2)", x.phi(2), VOID);
        due("phi(-2)", x.phi(-2), VOID);
    }

    private static void p08TheGreatestN() {
        NoughtSums x = row("30:");
        long[] due = {1, 1, 0, -1, -1, -1, 0, 1, 1};
        due("phi(-1)", x.phi(-1), 8);
        for (int i = 0; i <= 8; i++) due("phi(" + i + ")", x.phi(i), due[i]);
        due("phi(9)", x.phi(9), VOID);
        due("phi(-2)", x.phi(-2), VOID);
    }

    private static void p08TheGreatestDegree() {
        NoughtSums x = row("29:");
        due("phi(-1)", x.phi(-1), 28);
        for (int i = 0; i <= 28; i++) due("phi(" + i + ")", x.phi(i), 1);
        due("phi(29)", x.phi(29), VOID);
        due("phi(30)", x.phi(30), VOID);
    }

    private static void p08EachDegreeAndBothEnds() {
        int[] degrees = {1, 2, 2, 4, 2, 6, 4, 6, 4, 10, 4, 12, 6, 8, 8, 16, 6, 18, 8, 12, 10, 22, 8, 20, 12, 18, 12,
            28, 8};
        for (int n = 2; n <= 30; n++) {
            NoughtSums x = new NoughtSums();
            x.base(n);
            int degree = degrees[n - 2];
            due("phi(-1) of " + n, x.phi(-1), degree);
            due("phi(0) of " + n, x.phi(0), 1);
            due("phi of " + n + " at the top", x.phi(degree), 1);
            due("phi of " + n + " above the top", x.phi(degree + 1), VOID);
        }
    }

    private static void p08FarOffIsVoid() {
        for (int i : new int[] {LEAST, LEAST + 1, -30, -3, -2, 3, 6, 256, 65536, MOST}) {
            leaves("6:1x2", "phi(" + i + ")", x -> x.phi(i), VOID);
        }
    }

    private static void p08AnotherNHasAnotherPhi() {
        NoughtSums x = row("29:");
        due("phi(-1)", x.phi(-1), 28);
        x.base(12);
        due("phi(-1)", x.phi(-1), 4);
        due("phi(2)", x.phi(2), -1);
        due("phi(5)", x.phi(5), VOID);
        x.base(29);
        due("phi(2)", x.phi(2), 1);
    }

    // ---- 9 rest

    private static void p09NothingLeavesNothing() {
        NoughtSums x = row("30:");
        for (int i = 0; i < 8; i++) due("rest(" + i + ")", x.rest(i), 0);
    }

    private static void p09BelowNoughtIsVoid() {
        due("rest(0)", row("6:0").rest(0), 1);
        for (int i : new int[] {-1, -2, -6, LEAST}) leaves("6:0", "rest(" + i + ")", x -> x.rest(i), VOID);
    }

    private static void p09NotBelowTheDegreeIsVoid() {
        int[][] tops = {{2, 1}, {6, 2}, {12, 4}, {29, 28}, {30, 8}};
        for (int[] top : tops) {
            NoughtSums x = new NoughtSums();
            x.base(top[0]);
            x.set(top[1] - 1, 5);
            due("rest below the degree of " + top[0], x.rest(top[1] - 1), 5);
            due("rest at the degree of " + top[0], x.rest(top[1]), VOID);
            due("rest(N)", x.rest(top[0]), VOID);
            due("rest(MOST)", x.rest(MOST), VOID);
        }
    }

    private static void p09RootsBelowTheDegreeStayAsTheyAre() {
        NoughtSums x = row("29:0x9,1,27x8");
        due("rest(0)", x.rest(0), 9);
        due("rest(1)", x.rest(1), 1);
        due("rest(2)", x.rest(2), 0);
        due("rest(27)", x.rest(27), 8);
    }

    private static void p09TheLastRootGoesAround() {
        NoughtSums x = row("2:1x9");
        due("rest(0)", x.rest(0), -9);
        x = row("29:28x9");
        for (int i = 0; i < 28; i++) due("rest(" + i + ")", x.rest(i), -9);
        x = row("6:5x9");
        due("rest(0)", x.rest(0), 9);
        due("rest(1)", x.rest(1), -9);
    }

    private static void p09AllRootsFullLeaveNothing() {
        for (int n : new int[] {2, 6, 29, 30}) {
            NoughtSums x = allOf(n, 9);
            long degree = x.phi(-1);
            for (int i = 0; i < degree; i++) due("rest(" + i + ")", x.rest(i), 0);
        }
    }

    // ---- 10 nought

    private static void p10NothingIsNought() {
        for (int n = 2; n <= 30; n++) due("nought()", row(n + ":").nought(), 1);
    }

    private static void p10OneRootAloneIsNot() {
        for (int n = 2; n <= 30; n++) {
            for (int e = 0; e < n; e++) due("nought()", row(n + ":" + e + "x9").nought(), 0);
        }
    }

    private static void p10AllRootsAlikeAre() {
        for (int n = 2; n <= 30; n++) {
            NoughtSums x = allOf(n, 9);
            due("nought() of all " + n, x.nought(), 1);
            x.set(n - 1, 8);
            due("nought() with one less", x.nought(), 0);
        }
    }

    private static void p10AlmostNoughtIsNot() {
        due("nought()", row("30:0x9,15x9,1,16").nought(), 1);
        due("nought()", row("30:0x9,15x8,1,16").nought(), 0);
        due("nought()", almost().nought(), 0);
    }

    /** Of all rows with ROOTS 0, 6, 12, 18, 24 of N 29 that whose sum is the shortest. */
    private static NoughtSums almost() {
        int[] best = null;
        double least = 1;
        for (int code = 0; code < 100000; code++) {
            int[] counts = {code % 10, code / 10 % 10, code / 100 % 10, code / 1000 % 10, code / 10000};
            double length = length(counts);
            if (length > 1e-9 && length < least) {
                least = length;
                best = counts;
            }
        }
        due("the sum is shorter than a fiftieth", least < 0.02 ? 1 : 0, 1);
        NoughtSums x = new NoughtSums();
        x.base(29);
        for (int i = 0; i < 5; i++) x.set(i * 6, best[i]);
        return x;
    }

    private static double length(int[] counts) {
        double re = 0;
        double im = 0;
        for (int i = 0; i < counts.length; i++) {
            re += counts[i] * Math.cos(2 * Math.PI * i * 6 / 29);
            im += counts[i] * Math.sin(2 * Math.PI * i * 6 / 29);
        }
        return Math.hypot(re, im);
    }

    // ---- 11 primitive

    private static void p11NothingIsNotPrimitive() {
        due("primitive()", new NoughtSums().primitive(), 0);
        due("primitive()", row("30:").primitive(), 0);
    }

    private static void p11TheRowItselfIsNoOtherPart() {
        due("primitive()", row("2:0,1").primitive(), 1);
        due("primitive()", row("30:0,15").primitive(), 1);
        due("primitive()", row("30:5,6,12,18,24,25").primitive(), 1);
    }

    private static void p11TwiceTheSameIsNotPrimitive() {
        due("primitive()", row("2:0x2,1x2").primitive(), 0);
        due("primitive()", row("3:0x9,1x9,2x9").primitive(), 0);
    }

    private static void p11OnePartIsNotTheRow() {
        due("primitive()", row("6:0,3,1").primitive(), 0);
        due("primitive()", row("6:0x2,3").primitive(), 0);
    }

    private static void p11TheLongestPrimes() {
        // All 11 of N 11 have 2048 choices; all of N 13 8192; of N 17 there are too many.
        due("primitive()", allOf(11, 1).primitive(), 1);
        due("primitive()", allOf(13, 1).primitive(), 1);
        due("primitive()", allOf(17, 1).primitive(), DEAR);
    }

    private static void p11DearAboveTwentyThousand() {
        due("primitive()", row(LAST_CHEAP).primitive(), 0);
        leaves(FIRST_DEAR, "primitive()", x -> x.primitive(), DEAR);
    }

    private static void p11DearThoughItIsNotNought() {
        NoughtSums x = row("29:0x9,1x9,2x9,3x9,4x2");
        due("nought()", x.nought(), 0);
        due("primitive()", x.primitive(), DEAR);
    }

    // ---- 12 parts

    private static void p12NothingHasNoParts() {
        NoughtSums x = new NoughtSums();
        due("parts(0)", x.parts(0), 0);
        due("parts(1)", x.parts(1), NOT);
        due("parts(2)", x.parts(2), 0);
    }

    private static void p12NoneThatIsNought() {
        NoughtSums x = row("6:0x9,1x9");
        due("parts(0)", x.parts(0), 0);
        due("parts(1)", x.parts(1), NOT);
        due("parts(2)", x.parts(2), 0);
    }

    private static void p12TheRowItselfIsOne() {
        NoughtSums x = row("13:0,1,2,3,4,5,6,7,8,9,10,11,12");
        due("parts(0)", x.parts(0), 1);
        due("parts(1)", x.parts(1), 13);
        due("parts(2)", x.parts(2), 1);
    }

    private static void p12CountsMakePartsTheirOwn() {
        NoughtSums x = row("2:0x9,1x9");
        due("parts(0)", x.parts(0), 9);
        due("parts(1)", x.parts(1), 2);
        due("parts(2)", x.parts(2), 1);
    }

    private static void p12OneRootAloneHasNone() {
        for (int n = 2; n <= 30; n++) {
            for (int e = 0; e < n; e++) due("parts(0)", row(n + ":" + e + "x9").parts(0), 0);
        }
    }

    /** All of a prime, but one root is there twice and another not at all. */
    private static void p12OneTwiceForAnother() {
        for (int n : new int[] {2, 3, 11, 13}) {
            for (int e = 0; e < n; e++) {
                NoughtSums x = allOf(n, 1);
                x.set(e, 2);
                due("parts(0) of one more", x.parts(0), 1);
                for (int other = 0; other < n; other++) {
                    x.set(other, 0);
                    due("parts(0) of one for another", x.parts(0), 0);
                    x.set(other, other == e ? 2 : 1);
                }
            }
        }
    }

    private static void p12TheGreatestDegrees() {
        due("parts(0)", row("29:0x9,1x9,27x9,28x9").parts(0), 0);
        due("parts(1)", row("29:0x9,28x9").parts(1), NOT);
        due("parts(0)", row("23:0x9,1x9,21x9,22x9").parts(0), 0);
        due("parts(0)", row("25:0x2,5x2,10x2,15x2,20x2,24").parts(0), 2);
        due("parts(0)", row("25:4,9,14,19,24,23").parts(0), 1);
        due("parts(0)", row("27:8,17,26x9,25").parts(0), 1);
        due("parts(0)", row("28:13x9,27x8").parts(0), 8);
    }

    private static void p12AnotherNIsLookedAtAnew() {
        NoughtSums x = row("29:0,2");
        due("parts(0) of 29", x.parts(0), 0);
        tell(x, "4:0,2");
        due("parts(0) of 4", x.parts(0), 1);
        tell(x, "6:0,2");
        due("parts(0) of 6", x.parts(0), 0);
        tell(x, "6:0,2,4");
        due("parts(0) of 6", x.parts(0), 1);
        tell(x, "12:0,2,4");
        due("parts(0) of 12", x.parts(0), 0);
        tell(x, "29:0,1,2,3,4,5,6,7,8,9,10,11");
        due("parts(0) of 29", x.parts(0), 0);
    }

    private static void p12NoneBehindARowWithSome() {
        NoughtSums x = row("6:0,1,3,4");
        due("parts(2)", x.parts(2), 2);
        x.clear();
        due("parts(0) of nothing", x.parts(0), 0);
        due("parts(1) of nothing", x.parts(1), NOT);
        due("parts(2) of nothing", x.parts(2), 0);
        tell(x, "6:0,1,3,4");
        due("parts(2)", x.parts(2), 2);
        tell(x, "6:0,1");
        due("parts(0)", x.parts(0), 0);
        due("parts(1)", x.parts(1), NOT);
        due("parts(2)", x.parts(2), 0);
    }

    private static void p12AllOfTwelve() {
        NoughtSums x = allOf(12, 1);
        due("parts(0)", x.parts(0), 99);
        due("parts(1)", x.parts(1), 2);
        due("parts(2)", x.parts(2), 6);
    }

    private static void p12WhatIsNoughtToTwo() {
        for (int what : new int[] {LEAST, -2, -1, 3, 4, 256, MOST}) {
            leaves("6:0,3", "parts(" + what + ")", x -> x.parts(what), NONE);
        }
        due("parts(2)", row("6:0,3").parts(2), 1);
        due("parts(0)", row("6:0,3").parts(0), 1);
    }

    private static void p12DearAboveTwentyThousand() {
        due("parts(0)", row(LAST_CHEAP).parts(0), 99);
        due("parts(1)", row(LAST_CHEAP).parts(1), 2);
        due("parts(2)", row(LAST_CHEAP).parts(2), 2);
        for (int w = 0; w <= 2; w++) {
            int what = w;
            leaves(FIRST_DEAR, "parts(" + what + ")", x -> x.parts(what), DEAR);
        }
    }

    /** The product is just 20000 before the last root is looked at. */
    private static void p12DearByTheLastRootAlone() {
        due("parts(0)", row(LAST_CHEAP).parts(0), 99);
        for (int e = 17; e < 30; e++) due("parts(0) with " + e, row(LAST_CHEAP + "," + e).parts(0), DEAR);
        due("parts(0)", row("6:0x9,1x9,2x9,3x9,4,5").parts(0), DEAR);
        due("parts(0)", row("6:0,1,2x9,3x9,4x9,5x9").parts(0), DEAR);
    }

    private static void p12NoneGoesBeforeDear() {
        leaves(FIRST_DEAR, "parts(3)", x -> x.parts(3), NONE);
        leaves(FIRST_DEAR, "parts(-1)", x -> x.parts(-1), NONE);
    }

    private static void p12DearGoesBeforeNot() {
        NoughtSums x = row("29:0x9,1x9,2x9,3x9,4x2");
        due("parts(1)", x.parts(1), DEAR);
        due("parts(2)", x.parts(2), DEAR);
    }

    /** Where the product itself would go around in an int or in a long. */
    private static void p12ProductsThatGoAroundAreDear() {
        NoughtSums x = new NoughtSums();
        x.base(16);
        for (int e = 0; e < 16; e++) x.set(e, 3);
        due("4 to the 16th", x.parts(0), DEAR);
        due("8 to the 11th", allOf(11, 7).parts(0), DEAR);
        due("8 to the 22nd", allOf(22, 7).parts(0), DEAR);
        due("8 to the 30th", allOf(30, 7).parts(0), DEAR);
        due("10 to the 30th", allOf(30, 9).parts(0), DEAR);
        due("2 to the 30th", allOf(30, 1).parts(0), DEAR);
        due("2 to the 15th", allOf(15, 1).parts(0), DEAR);
        due("2 to the 14th", allOf(14, 1).parts(0) > 0 ? 1 : 0, 1);
        for (int e = 0; e < 16; e++) x.set(e, 1);
        due("2 to the 16th", x.parts(0), DEAR);
    }

    // ---- 13 part

    private static void p13TheFirstAndTheLastRoot() {
        for (int n : new int[] {2, 6, 30}) {
            String text = n + ":" + (n / 2 - 1) + "," + (n - 1);
            due("part(n - 1)", row(text).part(n - 1), 1);
            due("part(0)", row(text).part(0), n == 2 ? 1 : 0);
            for (int e : new int[] {LEAST, -1, n, n + 1, MOST}) {
                leaves(text, "part(" + e + ")", x -> x.part(e), NONE);
            }
        }
    }

    private static void p13ThereIsNone() {
        leaves("6:", "part(0)", x -> x.part(0), NOT);
        leaves("6:0x9,1", "part(0)", x -> x.part(0), NOT);
        leaves("6:0x9,1", "part(5)", x -> x.part(5), NOT);
    }

    private static void p13NoneGoesBeforeNotAndDear() {
        leaves("6:", "part(6)", x -> x.part(6), NONE);
        leaves(FIRST_DEAR, "part(30)", x -> x.part(30), NONE);
        leaves(FIRST_DEAR, "part(-1)", x -> x.part(-1), NONE);
    }

    private static void p13DearGoesBeforeNot() {
        due("part(0)", row("29:0x9,1x9,2x9,3x9,4x2").part(0), DEAR);
    }

    private static void p13DearAboveTwentyThousand() {
        due("part(0)", row(LAST_CHEAP).part(0), 1);
        due("part(2)", row(LAST_CHEAP).part(2), 0);
        leaves(FIRST_DEAR, "part(0)", x -> x.part(0), DEAR);
        leaves(FIRST_DEAR, "part(29)", x -> x.part(29), DEAR);
    }

    private static void p13TheLeastWeightGoesFirst() {
        // The three has ROOT 0, the pair has not.
        NoughtSums x = row("6:0,1,2,4");
        int[] due = {0, 1, 0, 0, 1, 0};
        for (int e = 0; e < 6; e++) due("part(" + e + ")", x.part(e), due[e]);
    }

    private static void p13OfLikeOnesTheMostOfTheFirstRoots() {
        // Each pair of N 8 is there: that with ROOT 0, then that with ROOT 1, and so on.
        NoughtSums x = allOf(8, 1);
        for (int e = 0; e < 8; e++) due("part(" + e + ")", x.part(e), e % 4 == 0 ? 1 : 0);
        x.set(0, 0);
        for (int e = 0; e < 8; e++) due("part(" + e + ")", x.part(e), e % 4 == 1 ? 1 : 0);
        x.set(5, 0);
        for (int e = 0; e < 8; e++) due("part(" + e + ")", x.part(e), e % 4 == 2 ? 1 : 0);
    }

    private static void p13OfLikeOnesALaterRootTells() {
        NoughtSums x = row("30:0,1,2,6,12,13,18,19,25,29");
        due("parts(2)", x.parts(2), 2);
        due("part(6)", x.part(6), 1);
        due("part(1)", x.part(1), 0);
    }

    /** Two PARTS of WEIGHT 7 without ROOT 0: the first root that tells them apart goes before all later ones. */
    private static void p13WithoutRootNoughtTheNextRootTells() {
        firstOfTwo("30:4,5,6,7,11,17,18,24,25,28", 4, 5, 11, 17, 18, 24, 28);
        firstOfTwo("30:1,4,5,11,12,18,22,23,24,25", 1, 5, 11, 12, 18, 24, 25);
        firstOfTwo("30:5,6,7,8,12,18,19,25,26,29", 5, 6, 12, 18, 19, 25, 29);
        firstOfTwo("30:3,6,7,13,14,20,24,25,26,27", 3, 7, 13, 14, 20, 26, 27);
    }

    private static void firstOfTwo(String text, int... roots) {
        NoughtSums x = row(text);
        due("parts(1) of " + text, x.parts(1), 7);
        due("parts(2) of " + text, x.parts(2), 2);
        int[] due = new int[30];
        for (int e : roots) due[e] = 1;
        for (int e = 0; e < 30; e++) due("part(" + e + ") of " + text, x.part(e), due[e]);
    }

    // ---- 14 take

    private static void p14ThereIsNone() {
        leaves("6:", "take()", x -> x.take(), NOT);
        leaves("6:0x9,1x9,2x9", "take()", x -> x.take(), NOT);
        due("take()", new NoughtSums().take(), NOT);
    }

    private static void p14TheWholeRowGoes() {
        NoughtSums x = row("7:0,1,2,3,4,5,6");
        due("take()", x.take(), 7);
        stands(x, "7:");
        due("take()", x.take(), NOT);
    }

    private static void p14OnceOfMany() {
        NoughtSums x = row("2:0x9,1x8");
        for (int c = 8; c > 0; c--) due("take()", x.take(), 2);
        stands(x, "2:0");
        due("take()", x.take(), NOT);
        stands(x, "2:0");
    }

    private static void p14DearAboveTwentyThousand() {
        NoughtSums x = row(LAST_CHEAP);
        due("take()", x.take(), 2);
        stands(x, "30:0x8,1x9,2,15x8,16x9");
        leaves(FIRST_DEAR, "take()", y -> y.take(), DEAR);
        leaves("29:0x9,1x9,2x9,3x9,4x2", "take()", y -> y.take(), DEAR);
    }

    private static void p14OnlyTheRowLoses() {
        NoughtSums x = filledUp("6:0,3,1");
        due("take()", x.take(), 2);
        int[] due = {6, 1, 3, 7, 3, 2};
        for (int what = 0; what < 6; what++) due("count(" + what + ")", x.count(what), due[what]);
        due("get(0, 3)", x.get(0, 3), 1);
    }

    private static void p14WhatWasFoundBeforeIsNotTakenAgain() {
        NoughtSums x = row("6:0,3,1,4");
        due("parts(0)", x.parts(0), 3);
        due("take()", x.take(), 2);
        due("parts(0)", x.parts(0), 1);
        due("part(0)", x.part(0), 0);
        due("part(1)", x.part(1), 1);
        due("take()", x.take(), 2);
        due("parts(0)", x.parts(0), 0);
    }

    // ---- 15 pieces

    private static void p15ThereIsNone() {
        due("pieces()", new NoughtSums().pieces(), 0);
        leaves("6:0x9,1x9", "pieces()", x -> x.pieces(), 0);
    }

    private static void p15TheMostPieces() {
        leaves("30:0x9,15x9,1x9,16x9", "pieces()", x -> x.pieces(), 18);
        leaves("2:0x9,1x9", "pieces()", x -> x.pieces(), 9);
    }

    private static void p15AsOftenAsTakeGoes() {
        List<String> texts = new ArrayList<>(List.of("12:0,1,2,3,4,5,6,7,8,9,10,11", "6:0x2,1,2x3,3,4x2,5x4",
                "30:2,3,4,5,9,15,16,22,23,26", "9:0x3,3x3,6x2,1", LAST_CHEAP));
        for (String text : texts) {
            NoughtSums x = row(text);
            int pieces = x.pieces();
            for (int i = 0; i < pieces; i++) due("take() could go", x.take() > 0 ? 1 : 0, 1);
            due("take() behind all pieces", x.take(), NOT);
        }
    }

    private static void p15DearAboveTwentyThousand() {
        due("pieces()", row(LAST_CHEAP).pieces(), 18);
        leaves(FIRST_DEAR, "pieces()", x -> x.pieces(), DEAR);
        leaves("29:0x9,1x9,2x9,3x9,4x2", "pieces()", x -> x.pieces(), DEAR);
    }
}
