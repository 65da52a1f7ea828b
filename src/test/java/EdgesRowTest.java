/** Edges of promises 1 to 7: a new object and its row; and what the terms say of all calls. */
public final class EdgesRowTest extends Edges {
    public static void main(String[] args) throws Exception {
        runAll(EdgesRowTest.class, 0, 7);
    }

    // ---- the terms

    private static void p00TheConstantsAreAsTold() {
        due("NONE", NoughtSums.NONE, -1);
        due("BAD", NoughtSums.BAD, -2);
        due("STATE", NoughtSums.STATE, -3);
        due("FULL", NoughtSums.FULL, -4);
        due("NOT", NoughtSums.NOT, -5);
        due("DEAR", NoughtSums.DEAR, -8);
        due("MISSING", NoughtSums.MISSING, -11);
        due("PLACE", NoughtSums.PLACE, -13);
        due("BELOW", NoughtSums.BELOW, -14);
        due("VOID", NoughtSums.VOID, Long.MIN_VALUE);
    }

    private static void p00WhatIsAskedOfTheRowChangesNothing() {
        String text = "12:0x3,1,4,6x2,8";
        leaves(text, "of(0)", x -> x.of(0), 3);
        leaves(text, "weight()", x -> x.weight(), 8);
        leaves(text, "phi(2)", x -> x.phi(2), -1);
        leaves(text, "rest(1)", x -> x.rest(1), 1);
        leaves(text, "nought()", x -> x.nought(), 0);
        leaves(text, "primitive()", x -> x.primitive(), 0);
        leaves(text, "parts(0)", x -> x.parts(0), 5);
        leaves(text, "parts(1)", x -> x.parts(1), 2);
        leaves(text, "parts(2)", x -> x.parts(2), 1);
        leaves(text, "part(6)", x -> x.part(6), 1);
        leaves(text, "pieces()", x -> x.pieces(), 3);
        leaves(text, "stays(0)", x -> x.stays(0), 1);
        leaves(text, "best()", x -> x.best(), 0);
        leaves(text, "alike(0)", x -> x.alike(0), 0);
        leaves(text, "layer(3, 1, 9)", x -> x.layer(3, 1, 9), 1);
        leaves(text, "layers(2, 1)", x -> x.layers(2, 1), 1);
        leaves(text, "spelled(3)", x -> x.spelled(3), '0');
    }

    private static void p00WhatIsAskedOfTheRestChangesNothing() {
        String text = "12:0x3,1,4,6x2,8";
        leaves(text, "prime(1)", x -> x.prime(1), 3);
        leaves(text, "possible(5)", x -> x.possible(5), 1);
        leaves(text, "ways(6)", x -> x.ways(6), 2);
        leaves(text, "hole(0)", x -> x.hole(0), 1);
        leaves(text, "listed(2, 0)", x -> x.listed(2, 0), 65);
        leaves(text, "filled(1, 1)", x -> x.filled(1, 1), 65);
        leaves(text, "where(1)", x -> x.where(1), 10 * 7 % 12);
        leaves(text, "lightest(0)", x -> x.lightest(0), 1);
        leaves(text, "held(0, 0)", x -> x.held(0, 0), 3);
        leaves(text, "get(2, 1)", x -> x.get(2, 1), Long.MAX_VALUE);
        leaves(text, "count(4)", x -> x.count(4), 3);
    }

    // ---- 1 a new object

    private static void p01NIsSix() {
        due("count(0)", new NoughtSums().count(0), 6);
        due("of(5)", new NoughtSums().of(5), 0);
        due("of(6)", new NoughtSums().of(6), NONE);
    }

    private static void p01NoCountsButNought() {
        NoughtSums x = new NoughtSums();
        for (int e = 0; e < 6; e++) due("of(" + e + ")", x.of(e), 0);
        due("weight()", x.weight(), 0);
        stands(x, "6:");
    }

    private static void p01AllElseIsEmpty() {
        NoughtSums x = new NoughtSums();
        for (int what = 1; what <= 5; what++) due("count(" + what + ")", x.count(what), 0);
        for (int list = 0; list < 3; list++) due("put", x.put(list, 0, 1), MISSING);
        for (int shelf = 0; shelf < 2; shelf++) due("held", x.held(shelf, -1), 0);
        due("undo()", x.undo(), STATE);
        due("read()", x.read(), -100);
    }

    private static void p01ObjectsDoNotShare() {
        NoughtSums x = new NoughtSums();
        fillUp(x, "30:0x9,29x9");
        p01NoCountsButNought();
        p01AllElseIsEmpty();
        due("weight()", x.weight(), 18);
    }

    // ---- 2 base

    private static void p02TwoIsTheLeast() {
        NoughtSums x = new NoughtSums();
        due("base(2)", x.base(2), 6);
        due("count(0)", x.count(0), 2);
        due("of(1)", x.of(1), 0);
        due("of(2)", x.of(2), NONE);
        leaves("7:1,6x9", "base(1)", y -> y.base(1), BAD);
        leaves("2:1", "base(1)", y -> y.base(1), BAD);
    }

    private static void p02ThirtyIsTheMost() {
        NoughtSums x = new NoughtSums();
        due("base(30)", x.base(30), 6);
        due("count(0)", x.count(0), 30);
        due("of(29)", x.of(29), 0);
        due("of(30)", x.of(30), NONE);
        leaves("7:1,6x9", "base(31)", y -> y.base(31), BAD);
        leaves("30:29x9", "base(31)", y -> y.base(31), BAD);
    }

    private static void p02FarOffIsRefused() {
        for (int n : new int[] {LEAST, LEAST + 6, -30, -6, -2, -1, 0, 1, 31, 32, 36, 60, 256 + 6, 65536 + 6, MOST}) {
            leaves("7:1,6x9", "base(" + n + ")", x -> x.base(n), BAD);
        }
    }

    private static void p02EachNIsTaken() {
        NoughtSums x = new NoughtSums();
        int was = 6;
        for (int n = 2; n <= 30; n++) {
            due("base(" + n + ")", x.base(n), was);
            due("count(0)", x.count(0), n);
            was = n;
        }
    }

    private static void p02TheSameNEmptiesTheRowToo() {
        NoughtSums x = row("6:0x9,5");
        due("base(6)", x.base(6), 6);
        stands(x, "6:");
    }

    private static void p02NothingComesBackWithAGreaterN() {
        NoughtSums x = new NoughtSums();
        x.base(30);
        for (int e = 0; e < 30; e++) x.set(e, 9);
        due("base(2)", x.base(2), 30);
        due("weight()", x.weight(), 0);
        due("base(30)", x.base(30), 2);
        for (int e = 0; e < 30; e++) due("of(" + e + ")", x.of(e), 0);
    }

    private static void p02TheRestStays() {
        NoughtSums x = filledUp("7:1,6x9");
        x.base(4);
        int[] due = {4, 0, 3, 7, 3, 2};
        for (int what = 0; what < 6; what++) due("count(" + what + ")", x.count(what), due[what]);
        due("get(0, 6)", x.get(0, 6), 9);
        due("undo()", x.undo(), 6);
    }

    // ---- 3 set

    private static void p03TheFirstAndTheLastRoot() {
        for (int n : new int[] {2, 6, 30}) {
            NoughtSums x = new NoughtSums();
            x.base(n);
            due("set(0, 1)", x.set(0, 1), 0);
            due("set(n - 1, 2)", x.set(n - 1, 2), 0);
            due("of(0)", x.of(0), 1);
            due("of(n - 1)", x.of(n - 1), 2);
            String text = n + ":0x2," + (n - 1);
            leaves(text, "set(-1, 1)", y -> y.set(-1, 1), NONE);
            leaves(text, "set(n, 1)", y -> y.set(n, 1), NONE);
            leaves(text, "set(LEAST, 1)", y -> y.set(LEAST, 1), NONE);
            leaves(text, "set(MOST, 1)", y -> y.set(MOST, 1), NONE);
        }
    }

    private static void p03NoughtIsTheLeastCount() {
        NoughtSums x = row("6:3x9");
        due("set(3, 0)", x.set(3, 0), 9);
        due("of(3)", x.of(3), 0);
        due("set(3, 0)", x.set(3, 0), 0);
        leaves("6:3x9", "set(3, -1)", y -> y.set(3, -1), BAD);
        leaves("6:3x9", "set(3, LEAST)", y -> y.set(3, LEAST), BAD);
    }

    private static void p03NineIsTheMostCount() {
        NoughtSums x = row("6:3x8");
        due("set(3, 9)", x.set(3, 9), 8);
        due("set(3, 9)", x.set(3, 9), 9);
        leaves("6:3x8", "set(3, 10)", y -> y.set(3, 10), BAD);
        leaves("6:3x8", "set(3, MOST)", y -> y.set(3, MOST), BAD);
        leaves("6:3x8", "set(3, 256)", y -> y.set(3, 256), BAD);
    }

    private static void p03NoRootGoesBeforeABadCount() {
        leaves("6:3x8", "set(6, 10)", x -> x.set(6, 10), NONE);
        leaves("6:3x8", "set(-1, -1)", x -> x.set(-1, -1), NONE);
    }

    private static void p03OnlyThatRootIsSet() {
        NoughtSums x = row("4:0,1x2,2x3,3x4");
        x.set(1, 9);
        stands(x, "4:0,1x9,2x3,3x4");
    }

    // ---- 4 add

    private static void p04UpToNine() {
        NoughtSums x = new NoughtSums();
        for (int c = 1; c <= 9; c++) due("add(2)", x.add(2), c);
        due("add(2)", x.add(2), FULL);
        stands(x, "6:2x9");
        leaves("6:1,2x9,3x8", "add(2)", y -> y.add(2), FULL);
    }

    private static void p04TheFirstAndTheLastRoot() {
        for (int n : new int[] {2, 6, 30}) {
            NoughtSums x = row(n + ":0x2," + (n - 1));
            due("add(0)", x.add(0), 3);
            due("add(n - 1)", x.add(n - 1), 2);
            leaves(n + ":0x2", "add(-1)", y -> y.add(-1), NONE);
            leaves(n + ":0x2", "add(n)", y -> y.add(n), NONE);
            leaves(n + ":0x2", "add(LEAST)", y -> y.add(LEAST), NONE);
            leaves(n + ":0x2", "add(MOST)", y -> y.add(MOST), NONE);
        }
    }

    private static void p04NoRootWhereAllAreFull() {
        leaves("2:0x9,1x9", "add(2)", x -> x.add(2), NONE);
        leaves("2:0x9,1x9", "add(1)", x -> x.add(1), FULL);
    }

    // ---- 5 of

    private static void p05TheFirstAndTheLastRoot() {
        for (int n : new int[] {2, 6, 30}) {
            NoughtSums x = row(n + ":0x2," + (n - 1) + "x9");
            due("of(0)", x.of(0), 2);
            due("of(n - 1)", x.of(n - 1), 9);
            for (int e : new int[] {LEAST, -n, -1, n, n + 1, 2 * n, MOST}) {
                leaves(n + ":0x2", "of(" + e + ")", y -> y.of(e), NONE);
            }
        }
    }

    private static void p05NoRootOfAGreaterNBefore() {
        NoughtSums x = row("30:29x9");
        x.base(29);
        due("of(29)", x.of(29), NONE);
        due("of(28)", x.of(28), 0);
    }

    // ---- 6 weight

    private static void p06NothingAtAll() {
        due("weight()", new NoughtSums().weight(), 0);
        due("weight()", row("30:").weight(), 0);
    }

    private static void p06OneRootAlone() {
        due("weight()", row("30:29").weight(), 1);
        due("weight()", row("30:0").weight(), 1);
    }

    private static void p06AllRootsFull() {
        NoughtSums x = new NoughtSums();
        x.base(30);
        for (int e = 0; e < 30; e++) x.set(e, 9);
        due("weight()", x.weight(), 270);
        x.base(2);
        x.set(0, 9);
        x.set(1, 9);
        due("weight()", x.weight(), 18);
    }

    // ---- 7 clear

    private static void p07NothingToClear() {
        due("clear()", new NoughtSums().clear(), 0);
        leaves("8:", "clear()", x -> x.clear(), 0);
    }

    private static void p07AllRootsFull() {
        NoughtSums x = new NoughtSums();
        x.base(30);
        for (int e = 0; e < 30; e++) x.set(e, 9);
        due("clear()", x.clear(), 270);
        for (int e = 0; e < 30; e++) due("of(" + e + ")", x.of(e), 0);
        due("clear()", x.clear(), 0);
    }

    private static void p07NAndTheRestStay() {
        NoughtSums x = filledUp("7:1,6x9");
        due("clear()", x.clear(), 10);
        int[] due = {7, 0, 3, 7, 3, 2};
        for (int what = 0; what < 6; what++) due("count(" + what + ")", x.count(what), due[what]);
        due("get(0, 6)", x.get(0, 6), 9);
        due("undo()", x.undo(), 6);
        stands(x, "9:0,4x2,8x3");
    }
}
