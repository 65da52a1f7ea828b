/** Edges of promises 16 to 22: rows turned, multiplied, mirrored, raised, and held against one another. */
public final class EdgesChangesTest extends Edges {
    public static void main(String[] args) throws Exception {
        runAll(EdgesChangesTest.class, 16, 22);
    }

    // ---- 16 turn

    private static void p16TheLastRootGoesAround() {
        NoughtSums x = row("6:0,5x9");
        due("turn(1)", x.turn(1), 9);
        stands(x, "6:0x9,1");
        x = row("30:29x9");
        due("turn(1)", x.turn(1), 9);
        stands(x, "30:0x9");
    }

    private static void p16BelowNoughtTheFirstRootGoesAround() {
        NoughtSums x = row("6:0x9,1");
        due("turn(-1)", x.turn(-1), 1);
        stands(x, "6:0,5x9");
    }

    private static void p16WholeTurnsChangeNothing() {
        for (int k : new int[] {0, 7, -7, 14, -14, 7 * 300000000, -7 * 300000000}) {
            leaves("7:0x2,1,6x9", "turn(" + k + ")", x -> x.turn(k), 2);
        }
    }

    private static void p16OneLessAndOneMoreThanAWholeTurn() {
        NoughtSums x = row("7:0x2,1,6x9");
        due("turn(8)", x.turn(8), 9);
        stands(x, "7:0x9,1x2,2");
        due("turn(6)", x.turn(6), 2);
        due("turn(-8)", x.turn(-8), 1);
        stands(x, "7:0,5x9,6x2");
        due("turn(-6)", x.turn(-6), 2);
        stands(x, "7:0x2,1,6x9");
    }

    private static void p16TheLeastAndTheGreatestInt() {
        for (int n = 2; n <= 30; n++) {
            for (int k : new int[] {LEAST, LEAST + 1, MOST - 1, MOST}) {
                for (int e : new int[] {0, 1, n - 1}) {
                    NoughtSums x = row(n + ":" + e);
                    int to = (int) Math.floorMod((long) e + k, (long) n);
                    due("turn(" + k + ")", x.turn(k), to == 0 ? 1 : 0);
                    due("of(" + to + ")", x.of(to), 1);
                    due("weight()", x.weight(), 1);
                }
            }
        }
    }

    private static void p16NothingTurnedIsNothing() {
        leaves("6:", "turn(1)", x -> x.turn(1), 0);
    }

    private static void p16OnlyTheRowIsTurned() {
        NoughtSums x = filledUp("7:1,6x9");
        due("turn(1)", x.turn(1), 9);
        int[] due = {7, 2, 3, 7, 3, 2};
        for (int what = 0; what < 6; what++) due("count(" + what + ")", x.count(what), due[what]);
        due("get(0, 6)", x.get(0, 6), 9);
        due("held(0, 0)", x.held(0, 0), 3);
    }

    // ---- 17 times

    private static void p17OneIsTheLeast() {
        leaves("6:0x2,1,5x9", "times(1)", x -> x.times(1), 2);
        for (int u : new int[] {0, -1, -5, -6, LEAST, LEAST + 1}) {
            leaves("6:0x2,1,5x9", "times(" + u + ")", x -> x.times(u), BAD);
        }
    }

    private static void p17NinetyNineIsTheMost() {
        NoughtSums x = row("7:0x2,1,6x9");
        due("times(99)", x.times(99), 2);
        // 99 is 1 modulo 7: nothing moves; 97 is 6 modulo 7: it is mirrored.
        stands(x, "7:0x2,1,6x9");
        due("times(97)", x.times(97), 2);
        stands(x, "7:0x2,1x9,6");
        for (int u : new int[] {100, 101, 103, 256 + 1, 65536 + 1, MOST}) {
            leaves("7:0x2,1,6x9", "times(" + u + ")", y -> y.times(u), BAD);
        }
    }

    private static void p17ADivisorInCommon() {
        leaves("6:0x2,1,5x9", "times(2)", x -> x.times(2), STATE);
        leaves("6:0x2,1,5x9", "times(3)", x -> x.times(3), STATE);
        leaves("6:0x2,1,5x9", "times(6)", x -> x.times(6), STATE);
        leaves("6:0x2,1,5x9", "times(99)", x -> x.times(99), STATE);
        leaves("25:0x2,1,24x9", "times(5)", x -> x.times(5), STATE);
        leaves("25:0x2,1,24x9", "times(95)", x -> x.times(95), STATE);
        leaves("29:0x2,28x9", "times(87)", x -> x.times(87), STATE);
        leaves("2:0x2,1x9", "times(98)", x -> x.times(98), STATE);
    }

    private static void p17ADivisorInCommonThoughTheRowIsEmpty() {
        leaves("6:", "times(2)", x -> x.times(2), STATE);
        leaves("6:", "times(5)", x -> x.times(5), 0);
    }

    private static void p17BadGoesBeforeState() {
        leaves("6:0x2,1,5x9", "times(0)", x -> x.times(0), BAD);
        leaves("6:0x2,1,5x9", "times(-2)", x -> x.times(-2), BAD);
        leaves("6:0x2,1,5x9", "times(102)", x -> x.times(102), BAD);
    }

    private static void p17RootsGoAround() {
        NoughtSums x = row("30:0x3,1,2x2,29x9");
        due("times(7)", x.times(7), 3);
        stands(x, "30:0x3,7,14x2,23x9");
        due("times(29)", x.times(29), 3);
        stands(x, "30:0x3,7x9,16x2,23");
        x = row("29:0,28x9");
        // 28 times 98 is 18 modulo 29.
        due("times(98)", x.times(98), 1);
        stands(x, "29:0,18x9");
    }

    // ---- 18 mirror

    private static void p18RootNoughtStays() {
        NoughtSums x = row("6:0x9,1,2x2");
        due("mirror()", x.mirror(), 9);
        stands(x, "6:0x9,4x2,5");
    }

    private static void p18TheMiddleRootStays() {
        leaves("6:0x9,3x4", "mirror()", x -> x.mirror(), 9);
        leaves("30:15x4", "mirror()", x -> x.mirror(), 0);
    }

    private static void p18TheLeastNStaysWhole() {
        leaves("2:0x9,1x4", "mirror()", x -> x.mirror(), 9);
    }

    private static void p18NothingMirroredIsNothing() {
        leaves("7:", "mirror()", x -> x.mirror(), 0);
    }

    private static void p18FirstAndLastChangePlaces() {
        NoughtSums x = row("30:1x2,29x9");
        due("mirror()", x.mirror(), 0);
        stands(x, "30:1x9,29x2");
        due("mirror()", x.mirror(), 0);
        stands(x, "30:1x2,29x9");
    }

    // ---- 19 raise

    private static void p19NoPrimeOfN() {
        for (int p : new int[] {LEAST, -5, -3, -2, -1, 0, 1, 4, 5, 6, 7, 12, 13, 24, MOST}) {
            leaves("12:0,1,2", "raise(" + p + ")", x -> x.raise(p), NONE);
        }
        leaves("29:1", "raise(2)", x -> x.raise(2), NONE);
        leaves("29:1", "raise(31)", x -> x.raise(31), NONE);
        leaves("30:1", "raise(15)", x -> x.raise(15), NONE);
        leaves("30:1", "raise(7)", x -> x.raise(7), NONE);
    }

    private static void p19TheLeastAndTheGreatestPrime() {
        NoughtSums x = row("2:0x4,1x5");
        due("raise(2)", x.raise(2), 9);
        stands(x, "2:0x9");
        x = row("29:0,1,14,28x6");
        due("raise(29)", x.raise(29), 9);
        stands(x, "29:0x9");
        x = row("30:0,1,7x2,29x3");
        due("raise(5)", x.raise(5), 1);
        stands(x, "30:0,5x3,25x3");
    }

    private static void p19NineTogetherIsTheMost() {
        NoughtSums x = row("6:0x5,3x4,1,4x8");
        due("raise(2)", x.raise(2), 9);
        stands(x, "6:0x9,2x9");
        leaves("6:0x5,3x5", "raise(2)", y -> y.raise(2), FULL);
        leaves("6:0x9,3", "raise(2)", y -> y.raise(2), FULL);
        leaves("6:0x9,3x9", "raise(2)", y -> y.raise(2), FULL);
    }

    private static void p19FullAtTheLastRootLeavesAllAsItWas() {
        leaves("6:0,1,2x5,5x5", "raise(2)", x -> x.raise(2), FULL);
        leaves("30:0,14x9,29", "raise(2)", x -> x.raise(2), FULL);
        leaves("3:0x9,1x9,2x9", "raise(3)", x -> x.raise(3), FULL);
    }

    private static void p19NoPrimeGoesBeforeFull() {
        leaves("6:0x9,3x9", "raise(4)", x -> x.raise(4), NONE);
        leaves("6:0x9,3x9", "raise(6)", x -> x.raise(6), NONE);
    }

    private static void p19FullRootsThatDoNotMeetAreTaken() {
        NoughtSums x = row("6:0x9,1x9,2x9");
        due("raise(2)", x.raise(2), 9);
        stands(x, "6:0x9,2x9,4x9");
    }

    private static void p19NothingRaisedIsNothing() {
        leaves("6:", "raise(3)", x -> x.raise(3), 0);
    }

    private static void p19RootsGoAround() {
        NoughtSums x = row("9:8x2,4");
        due("raise(3)", x.raise(3), 0);
        stands(x, "9:3,6x2");
    }

    // ---- 20 stays

    private static void p20NothingStaysByAll() {
        for (int n : new int[] {2, 7, 12, 30}) {
            leaves(n + ":", "stays(0)", x -> x.stays(0), n);
            leaves(n + ":", "stays(1)", x -> x.stays(1), 1);
        }
    }

    private static void p20AllAlikeStayByAll() {
        NoughtSums x = new NoughtSums();
        x.base(30);
        for (int e = 0; e < 30; e++) x.set(e, 9);
        due("stays(0)", x.stays(0), 30);
        due("stays(1)", x.stays(1), 1);
        x.set(29, 8);
        due("stays(0)", x.stays(0), 1);
        due("stays(1)", x.stays(1), 30);
    }

    private static void p20ByNoneBelowN() {
        for (int n : new int[] {2, 7, 12, 30}) {
            due("stays(0)", row(n + ":0").stays(0), 1);
            due("stays(1)", row(n + ":0").stays(1), n);
            due("stays(1)", row(n + ":" + (n - 1) + "x9").stays(1), n);
        }
    }

    private static void p20TheLeastOfMany() {
        due("stays(1)", row("12:1,3,5,7,9,11").stays(1), 2);
        due("stays(0)", row("12:1,3,5,7,9,11").stays(0), 6);
        due("stays(1)", row("30:0,15").stays(1), 15);
        due("stays(0)", row("30:0,15").stays(0), 2);
        // The half turn moves every root but leaves no count otherwise only if all pairs are alike.
        due("stays(1)", row("30:0,15,1,16x2").stays(1), 30);
    }

    private static void p20WhatIsNoughtOrOne() {
        for (int what : new int[] {LEAST, -2, -1, 2, 3, 256, MOST}) {
            leaves("6:0,3", "stays(" + what + ")", x -> x.stays(what), NONE);
        }
    }

    // ---- 21 best

    private static void p21NothingIsBestAsItIs() {
        leaves("6:", "best()", x -> x.best(), 0);
        due("best()", row("30:").best(), 0);
    }

    private static void p21OneRootComesToRootNought() {
        due("best()", row("30:0").best(), 0);
        due("best()", row("30:1").best(), 29);
        due("best()", row("30:29").best(), 1);
        due("best()", row("2:1x9").best(), 1);
    }

    private static void p21OfTurnsThatAreAlikeTheLeast() {
        due("best()", row("6:0,2,4").best(), 0);
        due("best()", row("6:1,3,5").best(), 1);
        due("best()", row("30:14x2,29x2").best(), 1);
    }

    private static void p21TheLastRootTells() {
        // By 0 and by 3 they are alike but for ROOTS 2 and 5.
        due("best()", row("6:0,1,3,4,5").best(), 3);
        due("best()", row("6:0,1,2,3,4").best(), 0);
        due("best()", row("6:0x2,1,2,3x2,4,5x2").best(), 1);
    }

    // ---- 22 alike

    private static void p22NoSuchList() {
        for (int list : new int[] {LEAST, -1, 3, 4, 256, MOST}) {
            leaves("6:0,3", "alike(" + list + ")", x -> x.alike(list), NONE);
        }
        leaves("6:0,3", "alike(0)", x -> x.alike(0), 0);
        leaves("6:0,3", "alike(2)", x -> x.alike(2), NOT);
    }

    private static void p22TheListIsMissing() {
        leaves("6:0,3", "alike(1)", x -> x.alike(1), MISSING);
        NoughtSums x = row("6:");
        x.film(1);
        x.list(1, -1);
        due("alike(1)", x.alike(1), MISSING);
    }

    private static void p22AnotherSize() {
        NoughtSums x = row("6:");
        int[] sizes = {0, 1, 5, 7, 12, 30};
        for (int size : sizes) {
            x.list(0, size);
            due("alike(0) of " + size, x.alike(0), NOT);
        }
        x.list(0, 6);
        due("alike(0) of 6", x.alike(0), 0);
        x.base(7);
        due("alike(0) of 6 for 7", x.alike(0), NOT);
        x.base(5);
        due("alike(0) of 6 for 5", x.alike(0), NOT);
    }

    private static void p22TheLeastAndTheGreatestTurn() {
        NoughtSums x = row("30:0,3x2");
        x.film(2);
        due("alike(2)", x.alike(2), 0);
        x.turn(1);
        due("alike(2)", x.alike(2), 29);
        x.turn(-2);
        due("alike(2)", x.alike(2), 1);
        x.base(2);
        x.set(1, 9);
        x.list(2, 2);
        x.put(2, 0, 9);
        due("alike(2)", x.alike(2), 1);
    }

    private static void p22OfManyTurnsTheLeast() {
        NoughtSums x = row("6:1,3,5");
        x.list(0, 6);
        x.put(0, 0, 1);
        x.put(0, 2, 1);
        x.put(0, 4, 1);
        due("alike(0)", x.alike(0), 1);
    }

    private static void p22NumbersThatAreNoCounts() {
        long[] odd = {-1, 10, 1L << 32, (1L << 32) + 1, 257, Long.MAX_VALUE, Long.MIN_VALUE, -(1L << 32) + 1};
        for (long v : odd) {
            NoughtSums x = row("6:0,3");
            x.film(0);
            x.put(0, 3, v);
            due("alike(0) with " + v, x.alike(0), NOT);
        }
        NoughtSums x = new NoughtSums();
        x.list(0, 6);
        x.put(0, 5, 1L << 32);
        due("alike(0) of an empty row", x.alike(0), NOT);
    }

    private static void p22OneCountIsOtherwise() {
        NoughtSums x = row("6:0,1,2,3,4,5");
        x.film(0);
        for (int i = 0; i < 6; i++) {
            x.put(0, i, 2);
            due("alike(0)", x.alike(0), NOT);
            x.put(0, i, 1);
        }
        due("alike(0)", x.alike(0), 0);
        x = row("6:0,5x9");
        x.film(0);
        x.set(5, 8);
        due("alike(0)", x.alike(0), NOT);
        x.set(5, 9);
        due("alike(0)", x.alike(0), 0);
    }

    private static void p22TheFirstOrTheLastPlaceAloneTells() {
        NoughtSums x = row("6:0,5x9");
        x.film(0);
        x.put(0, 0, 2);
        due("alike(0)", x.alike(0), NOT);
        x.put(0, 0, 1);
        x.put(0, 5, 8);
        due("alike(0)", x.alike(0), NOT);
    }

    /** A list that tells the row mirrored is not the row turned. */
    private static void p22MirroredIsNotTurned() {
        NoughtSums x = row("6:0,1x2,2x3");
        x.film(0);
        x.mirror();
        due("alike(0)", x.alike(0), NOT);
    }
}
