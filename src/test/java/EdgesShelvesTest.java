/** Edges of promises 31 to 40: plans of changes and shelves of rows. */
public final class EdgesShelvesTest extends Edges {
    public static void main(String[] args) throws Exception {
        runAll(EdgesShelvesTest.class, 31, 40);
    }

    /** Shelf 0 with 8 rows of N 2 to 9, each with so many of ROOT 1; the row is the last. */
    private static void fullShelf(NoughtSums x) {
        for (int k = 0; k < 8; k++) {
            x.base(k + 2);
            x.set(1, k + 1);
            x.keep(0);
        }
    }

    private static void fullPlan(NoughtSums x) {
        tell(x, "7:1,2x2");
        for (int i = 0; i < 8; i++) x.plan(0, i);
    }

    // ---- 31 plan

    private static void p31WhatIsNoughtToThree() {
        for (int what : new int[] {LEAST, -2, -1, 4, 5, 256, MOST}) {
            leaves("6:1,2x2", "plan(" + what + ", 1)", x -> x.plan(what, 1), NONE);
        }
        NoughtSums x = new NoughtSums();
        for (int what = 0; what <= 3; what++) due("plan(" + what + ", 1)", x.plan(what, 1), what + 1);
    }

    private static void p31EightAtMost() {
        NoughtSums x = new NoughtSums();
        for (int i = 1; i <= 8; i++) due("plan(0, 1)", x.plan(0, 1), i);
        due("plan(0, 1)", x.plan(0, 1), FULL);
        due("count(2)", x.count(2), 8);
        // Eight turns, not nine.
        due("where(0)", x.where(0), 2);
        leaves(EdgesShelvesTest::fullPlan, "plan(0, 1)", y -> y.plan(0, 1), FULL);
        leaves(EdgesShelvesTest::fullPlan, "plan(3, 7)", y -> y.plan(3, 7), FULL);
    }

    private static void p31NoneGoesBeforeFull() {
        leaves(EdgesShelvesTest::fullPlan, "plan(4, 1)", x -> x.plan(4, 1), NONE);
        leaves(EdgesShelvesTest::fullPlan, "plan(-1, 1)", x -> x.plan(-1, 1), NONE);
    }

    private static void p31AnyNumberIsTaken() {
        NoughtSums x = new NoughtSums();
        due("plan(0, LEAST)", x.plan(0, LEAST), 1);
        due("plan(0, MOST)", x.plan(0, MOST), 2);
        due("plan(1, 0)", x.plan(1, 0), 3);
        due("plan(1, 100)", x.plan(1, 100), 4);
        due("plan(2, LEAST)", x.plan(2, LEAST), 5);
        due("plan(3, -1)", x.plan(3, -1), 6);
        due("plan(3, 4)", x.plan(3, 4), 7);
    }

    private static void p31TheRowIsNotChangedYet() {
        NoughtSums x = row("6:0,1x2");
        x.plan(0, 1);
        stands(x, "6:0,1x2");
    }

    private static void p31RoomAgainBehindUnplan() {
        NoughtSums x = new NoughtSums();
        fullPlan(x);
        x.unplan();
        due("plan(2, 0)", x.plan(2, 0), 1);
        due("where(1)", x.where(1), 6);
    }

    // ---- 32 unplan

    private static void p32NothingPlanned() {
        NoughtSums x = new NoughtSums();
        due("unplan()", x.unplan(), 0);
        due("count(2)", x.count(2), 0);
    }

    private static void p32TheFullPlan() {
        NoughtSums x = new NoughtSums();
        fullPlan(x);
        due("unplan()", x.unplan(), 8);
        due("unplan()", x.unplan(), 0);
        due("where(3)", x.where(3), 3);
        due("run()", x.run(), 0);
        stands(x, "7:1,2x2");
    }

    private static void p32OnlyThePlanGoes() {
        NoughtSums x = filledUp("7:1,6x9");
        due("unplan()", x.unplan(), 3);
        int[] due = {7, 2, 0, 7, 3, 2};
        for (int what = 0; what < 6; what++) due("count(" + what + ")", x.count(what), due[what]);
        due("undo()", x.undo(), 6);
        due("count(2)", x.count(2), 1);
    }

    // ---- 33 where

    private static void p33TheFirstAndTheLastRoot() {
        for (int n : new int[] {2, 6, 30}) {
            NoughtSums x = row(n + ":");
            due("where(0)", x.where(0), 0);
            due("where(n - 1)", x.where(n - 1), n - 1);
            for (int e : new int[] {LEAST, -1, n, n + 1, MOST}) {
                leaves(n + ":1", "where(" + e + ")", y -> y.where(e), NONE);
            }
        }
    }

    private static void p33NoPlanLeavesRootsWhereTheyAre() {
        NoughtSums x = row("30:");
        for (int e = 0; e < 30; e++) due("where(" + e + ")", x.where(e), e);
    }

    private static void p33TurnsGoAround() {
        for (int n = 2; n <= 30; n++) {
            for (int k : new int[] {LEAST, -n - 1, -n, -1, 0, 1, n - 1, n, n + 1, MOST}) {
                NoughtSums x = row(n + ":");
                x.plan(0, k);
                due("where(0)", x.where(0), Math.floorMod((long) k, (long) n));
                due("where(n - 1)", x.where(n - 1), Math.floorMod((long) n - 1 + k, (long) n));
            }
        }
    }

    private static void p33MirroredGoesAround() {
        NoughtSums x = row("6:");
        x.plan(2, 5);
        int[] due = {0, 5, 4, 3, 2, 1};
        for (int e = 0; e < 6; e++) due("where(" + e + ")", x.where(e), due[e]);
    }

    private static void p33TimesThatCanNotBeAreLeftOut() {
        for (int v : new int[] {LEAST, -5, -1, 0, 2, 3, 4, 6, 9, 99, 100, 101, 103, 256 + 5, MOST}) {
            NoughtSums x = row("6:");
            x.plan(1, v);
            for (int e = 0; e < 6; e++) due("where(" + e + ") with times " + v, x.where(e), e);
        }
        for (int v : new int[] {5, 11, 95}) {
            NoughtSums x = row("6:");
            x.plan(1, v);
            due("where(1) with times " + v, x.where(1), 5);
        }
        NoughtSums x = row("5:");
        x.plan(1, 99);
        due("where(1) with times 99", x.where(1), 4);
    }

    private static void p33RaisedThatCanNotBeIsLeftOut() {
        for (int v : new int[] {LEAST, -3, -2, -1, 0, 1, 4, 5, 6, 7, 12, MOST}) {
            NoughtSums x = row("12:");
            x.plan(3, v);
            for (int e = 0; e < 12; e++) due("where(" + e + ") with raised " + v, x.where(e), e);
        }
        NoughtSums x = row("12:");
        x.plan(3, 3);
        due("where(11)", x.where(11), 9);
        x.base(29);
        x.unplan();
        x.plan(3, 29);
        due("where(28)", x.where(28), 0);
    }

    private static void p33OneBehindTheOther() {
        NoughtSums x = row("6:");
        x.plan(0, 1);
        x.plan(3, 2);
        due("where(1)", x.where(1), 4);
        x.unplan();
        x.plan(3, 2);
        x.plan(0, 1);
        due("where(1)", x.where(1), 3);
    }

    /** What run() leaves out for a COUNT above 9 is none of a ROOT's business. */
    private static void p33FullRowsDoNotMatter() {
        NoughtSums x = row("6:0x9,3x9");
        x.plan(3, 2);
        due("where(1)", x.where(1), 2);
        due("run()", x.run(), 0);
    }

    private static void p33ThePlanIsReadWithTheNThatIsNow() {
        NoughtSums x = row("6:");
        x.plan(1, 5);
        x.plan(3, 3);
        due("where(1)", x.where(1), 3);
        x.base(5);
        due("where(1)", x.where(1), 1);
        x.base(7);
        due("where(1)", x.where(1), 5);
        x.base(9);
        due("where(1)", x.where(1), 6);
    }

    // ---- 34 run

    private static void p34NothingPlanned() {
        leaves(x -> tell(x, "6:0,1x2"), "run()", x -> x.run(), 0);
    }

    private static void p34TheFullPlan() {
        NoughtSums x = new NoughtSums();
        fullPlan(x);
        // 0 and 1 and so on to 7 are 28 together: whole turns.
        due("run()", x.run(), 8);
        stands(x, "7:1,2x2");
        due("count(2)", x.count(2), 8);
    }

    private static void p34ThePlanStaysAndRunsAgain() {
        NoughtSums x = row("6:0");
        x.plan(0, 2);
        due("run()", x.run(), 1);
        due("run()", x.run(), 1);
        stands(x, "6:4");
        due("count(2)", x.count(2), 1);
    }

    private static void p34WhatCanNotBeIsLeftOutAndTheRestDone() {
        NoughtSums x = row("6:0,1x2");
        int[][] changes = {{1, 0}, {1, 100}, {1, -1}, {1, 2}, {3, 5}, {3, 1}, {3, 6}, {0, 1}};
        for (int[] change : changes) x.plan(change[0], change[1]);
        due("run()", x.run(), 1);
        stands(x, "6:1,2x2");
    }

    private static void p34NothingCanBe() {
        NoughtSums x = row("6:0,1x2");
        x.plan(1, LEAST);
        x.plan(1, MOST);
        x.plan(3, LEAST);
        x.plan(3, MOST);
        due("run()", x.run(), 0);
        stands(x, "6:0,1x2");
    }

    private static void p34RaisedToNineIsDone() {
        NoughtSums x = row("6:0x5,3x4");
        x.plan(3, 2);
        due("run()", x.run(), 1);
        stands(x, "6:0x9");
    }

    private static void p34RaisedAboveNineIsLeftOut() {
        NoughtSums x = row("6:0x5,1,3x5");
        x.plan(3, 2);
        x.plan(0, 1);
        due("run()", x.run(), 1);
        stands(x, "6:1x5,2,4x5");
    }

    private static void p34ChangesThatMoveNothingAreDoneToo() {
        NoughtSums x = row("6:");
        x.plan(0, 0);
        x.plan(1, 1);
        x.plan(2, 0);
        x.plan(3, 2);
        due("run()", x.run(), 4);
        stands(x, "6:");
    }

    private static void p34TurnsGoAround() {
        NoughtSums x = row("7:6x9");
        x.plan(0, LEAST);
        x.plan(0, MOST);
        due("run()", x.run(), 2);
        // The two together are one back.
        stands(x, "7:5x9");
    }

    // ---- 35 keep

    private static void p35NoSuchShelf() {
        for (int shelf : new int[] {LEAST, -2, -1, 2, 3, 256, MOST}) {
            leaves("6:1", "keep(" + shelf + ")", x -> x.keep(shelf), NONE);
        }
    }

    private static void p35EightAtMost() {
        for (int s = 0; s < 2; s++) {
            NoughtSums x = row("6:1");
            for (int k = 0; k < 8; k++) due("keep(" + s + ")", x.keep(s), k);
            due("keep(" + s + ")", x.keep(s), FULL);
            due("held(" + s + ", -1)", x.held(s, -1), 8);
            due("keep(the other)", x.keep(1 - s), 0);
        }
        leaves(EdgesShelvesTest::fullShelf, "keep(0)", x -> x.keep(0), FULL);
    }

    private static void p35NoneWhereAllIsFull() {
        leaves(EdgesShelvesTest::fullShelf, "keep(2)", x -> x.keep(2), NONE);
        leaves(EdgesShelvesTest::fullShelf, "keep(-1)", x -> x.keep(-1), NONE);
    }

    private static void p35NothingIsKeptToo() {
        NoughtSums x = row("30:");
        due("keep(1)", x.keep(1), 0);
        x.base(3);
        due("lay(1, 0)", x.lay(1, 0), 0);
        due("count(0)", x.count(0), 30);
    }

    private static void p35WhatIsKeptStaysAsItIs() {
        NoughtSums x = row("30:29x9");
        x.keep(0);
        x.set(29, 1);
        x.base(2);
        due("held(0, 0)", x.held(0, 0), 9);
        due("lay(0, 0)", x.lay(0, 0), 9);
        stands(x, "30:29x9");
    }

    private static void p35TheNumbersGoOnBehindADrop() {
        NoughtSums x = new NoughtSums();
        fullShelf(x);
        x.drop(0, 3);
        due("keep(0)", x.keep(0), 7);
        due("keep(0)", x.keep(0), FULL);
    }

    // ---- 36 lay

    private static void p36NoSuchShelf() {
        for (int shelf : new int[] {LEAST, -1, 2, 3, MOST}) {
            leaves("6:1", "lay(" + shelf + ", 0)", x -> x.lay(shelf, 0), NONE);
        }
    }

    private static void p36NoSuchRow() {
        for (int k : new int[] {LEAST, -2, -1, 2, 3, 8, 256, MOST}) {
            leaves("6:1", "lay(0, " + k + ")", x -> x.lay(0, k), NONE);
        }
        for (int k : new int[] {-1, 8, 9}) {
            leaves(EdgesShelvesTest::fullShelf, "lay(0, " + k + ")", x -> x.lay(0, k), NONE);
        }
    }

    private static void p36AnEmptyShelf() {
        leaves(EdgesShelvesTest::fullShelf, "lay(1, 0)", x -> x.lay(1, 0), NONE);
    }

    private static void p36TheFirstAndTheLastOfAFullShelf() {
        NoughtSums x = new NoughtSums();
        fullShelf(x);
        due("lay(0, 0)", x.lay(0, 0), 1);
        stands(x, "2:1");
        due("lay(0, 7)", x.lay(0, 7), 8);
        stands(x, "9:1x8");
        due("held(0, -1)", x.held(0, -1), 8);
    }

    private static void p36NothingComesAlongFromAGreaterN() {
        NoughtSums x = row("2:0");
        x.keep(0);
        tell(x, "30:2x9,29x9");
        due("lay(0, 0)", x.lay(0, 0), 1);
        stands(x, "2:0");
        due("turn(1)", x.turn(1), 0);
        stands(x, "2:1");
    }

    private static void p36TheKeptRowIsNotTheRow() {
        NoughtSums x = row("6:1");
        x.keep(0);
        x.lay(0, 0);
        x.set(1, 9);
        due("held(0, 0)", x.held(0, 0), 1);
    }

    // ---- 37 drop

    private static void p37NoSuchShelf() {
        for (int shelf : new int[] {LEAST, -1, 2, 3, MOST}) {
            leaves("6:1", "drop(" + shelf + ", 0)", x -> x.drop(shelf, 0), NONE);
        }
    }

    private static void p37NoSuchRow() {
        for (int k : new int[] {LEAST, -2, -1, 2, 3, 8, 256, MOST}) {
            leaves("6:1", "drop(0, " + k + ")", x -> x.drop(0, k), NONE);
        }
        for (int k : new int[] {-1, 8, 9}) {
            leaves(EdgesShelvesTest::fullShelf, "drop(0, " + k + ")", x -> x.drop(0, k), NONE);
        }
        leaves(EdgesShelvesTest::fullShelf, "drop(1, 0)", x -> x.drop(1, 0), NONE);
    }

    private static void p37TheFirstOfAFullShelf() {
        NoughtSums x = new NoughtSums();
        fullShelf(x);
        due("drop(0, 0)", x.drop(0, 0), 7);
        for (int k = 0; k < 7; k++) {
            due("lay(0, " + k + ")", x.lay(0, k), k + 2);
            due("count(0)", x.count(0), k + 3);
        }
        due("lay(0, 7)", x.lay(0, 7), NONE);
    }

    private static void p37TheLastOfAFullShelf() {
        NoughtSums x = new NoughtSums();
        fullShelf(x);
        due("drop(0, 7)", x.drop(0, 7), 7);
        for (int k = 0; k < 7; k++) due("held(0, " + k + ")", x.held(0, k), k + 1);
        due("held(0, 7)", x.held(0, 7), NONE);
        due("drop(0, 7)", x.drop(0, 7), NONE);
    }

    private static void p37TheOnlyRow() {
        NoughtSums x = row("6:1");
        x.keep(1);
        due("drop(1, 0)", x.drop(1, 0), 0);
        due("drop(1, 0)", x.drop(1, 0), NONE);
        due("lightest(1)", x.lightest(1), NOT);
        stands(x, "6:1");
    }

    private static void p37TheOtherShelfStays() {
        NoughtSums x = new NoughtSums();
        fullShelf(x);
        x.keep(1);
        due("drop(1, 0)", x.drop(1, 0), 0);
        due("held(0, -1)", x.held(0, -1), 8);
    }

    // ---- 38 lightest

    private static void p38NoSuchShelf() {
        for (int shelf : new int[] {LEAST, -1, 2, 3, MOST}) {
            leaves("6:1", "lightest(" + shelf + ")", x -> x.lightest(shelf), NONE);
        }
    }

    private static void p38ItHoldsNone() {
        due("lightest(0)", new NoughtSums().lightest(0), NOT);
        due("lightest(1)", new NoughtSums().lightest(1), NOT);
        leaves(EdgesShelvesTest::fullShelf, "lightest(1)", x -> x.lightest(1), NOT);
    }

    private static void p38TheFirstAndTheLast() {
        NoughtSums x = new NoughtSums();
        fullShelf(x);
        due("lightest(0)", x.lightest(0), 0);
        x.drop(0, 7);
        x.base(30);
        x.keep(0);
        due("lightest(0)", x.lightest(0), 7);
    }

    private static void p38OfLikeOnesTheFirst() {
        NoughtSums x = row("6:1x2");
        x.keep(0);
        x.set(1, 1);
        x.keep(0);
        x.turn(1);
        x.keep(0);
        due("lightest(0)", x.lightest(0), 1);
        x.clear();
        x.keep(0);
        x.keep(0);
        due("lightest(0)", x.lightest(0), 3);
    }

    // ---- 39 pour

    private static void p39NoSuchShelf() {
        int[][] pairs = {{-1, 0}, {0, -1}, {2, 0}, {0, 2}, {LEAST, 1}, {1, MOST}, {2, 3}};
        for (int[] pair : pairs) {
            leaves("6:1", "pour(" + pair[0] + ", " + pair[1] + ")", x -> x.pour(pair[0], pair[1]), NONE);
        }
    }

    private static void p39NoneGoesBeforeState() {
        leaves("6:1", "pour(2, 2)", x -> x.pour(2, 2), NONE);
        leaves("6:1", "pour(-1, -1)", x -> x.pour(-1, -1), NONE);
    }

    private static void p39TheSameShelf() {
        leaves("6:1", "pour(0, 0)", x -> x.pour(0, 0), STATE);
        leaves("6:1", "pour(1, 1)", x -> x.pour(1, 1), STATE);
        leaves(x -> x.base(4), "pour(0, 0) with nothing there", x -> x.pour(0, 0), STATE);
    }

    private static void p39StateGoesBeforeFull() {
        leaves(EdgesShelvesTest::fullShelf, "pour(0, 0)", x -> x.pour(0, 0), STATE);
    }

    private static void p39NothingToPour() {
        NoughtSums x = new NoughtSums();
        due("pour(0, 1)", x.pour(0, 1), 0);
        leaves(EdgesShelvesTest::fullShelf, "pour(1, 0)", y -> y.pour(1, 0), 8);
    }

    private static void p39AFullShelfToAnEmptyOne() {
        NoughtSums x = new NoughtSums();
        fullShelf(x);
        due("pour(0, 1)", x.pour(0, 1), 8);
        due("held(0, -1)", x.held(0, -1), 0);
        for (int k = 0; k < 8; k++) {
            due("lay(1, " + k + ")", x.lay(1, k), k + 1);
            due("count(0)", x.count(0), k + 2);
        }
        due("keep(1)", x.keep(1), FULL);
        due("keep(0)", x.keep(0), 0);
    }

    private static void p39EightTogether() {
        NoughtSums x = new NoughtSums();
        fullShelf(x);
        for (int k = 7; k >= 5; k--) x.drop(0, k);
        x.base(20);
        for (int c = 1; c <= 3; c++) {
            x.set(19, c);
            x.keep(1);
        }
        due("pour(0, 1)", x.pour(0, 1), 8);
        int[] weights = {1, 2, 3, 1, 2, 3, 4, 5};
        int[] bases = {20, 20, 20, 2, 3, 4, 5, 6};
        for (int k = 0; k < 8; k++) {
            due("lay(1, " + k + ")", x.lay(1, k), weights[k]);
            due("count(0)", x.count(0), bases[k]);
        }
    }

    private static void nineTogether(NoughtSums x) {
        fullShelf(x);
        x.drop(0, 0);
        x.drop(0, 0);
        x.keep(1);
        x.keep(1);
        x.keep(1);
    }

    private static void p39MoreThanEightTogether() {
        leaves(EdgesShelvesTest::nineTogether, "pour(0, 1)", x -> x.pour(0, 1), FULL);
        leaves(EdgesShelvesTest::nineTogether, "pour(1, 0)", x -> x.pour(1, 0), FULL);
    }

    // ---- 40 held

    private static void p40NoSuchShelf() {
        for (int shelf : new int[] {LEAST, -1, 2, 3, MOST}) {
            leaves("6:1", "held(" + shelf + ", -1)", x -> x.held(shelf, -1), NONE);
            leaves("6:1", "held(" + shelf + ", 0)", x -> x.held(shelf, 0), NONE);
        }
    }

    private static void p40BelowLessOneAndNoSuchRow() {
        for (int k : new int[] {LEAST, -3, -2, 2, 3, 8, 256, MOST}) {
            leaves("6:1", "held(0, " + k + ")", x -> x.held(0, k), NONE);
        }
        leaves("6:1", "held(0, 1)", x -> x.held(0, 1), 0);
        leaves("6:1", "held(0, -1)", x -> x.held(0, -1), 2);
    }

    private static void p40AnEmptyAndAFullShelf() {
        NoughtSums x = new NoughtSums();
        due("held(0, -1)", x.held(0, -1), 0);
        due("held(0, 0)", x.held(0, 0), NONE);
        fullShelf(x);
        due("held(0, -1)", x.held(0, -1), 8);
        due("held(0, 0)", x.held(0, 0), 1);
        due("held(0, 7)", x.held(0, 7), 8);
        due("held(0, 8)", x.held(0, 8), NONE);
        due("held(1, 0)", x.held(1, 0), NONE);
    }

    private static void p40TheHeaviestRow() {
        NoughtSums x = new NoughtSums();
        x.base(30);
        for (int e = 0; e < 30; e++) x.set(e, 9);
        x.keep(1);
        x.base(2);
        due("held(1, 0)", x.held(1, 0), 270);
    }
}
