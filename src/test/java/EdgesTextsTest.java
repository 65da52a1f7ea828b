/** Edges of promises 41 to 51: lists, texts, the image, and what is counted. */
public final class EdgesTextsTest extends Edges {
    public static void main(String[] args) throws Exception {
        runAll(EdgesTextsTest.class, 41, 51);
    }

    private static String many(String text, int often) {
        return text.repeat(often);
    }

    /** The row and all else are as they were, but the tape is empty. */
    private static void refuses(String text, int want) {
        leaves(x -> {
            fillUp(x, "7:1,6x9");
            x.wipe();
        }, "read of '" + text + "'", x -> tell(x, text), want);
    }

    private static void reads(String text, int weight, String spelled) {
        NoughtSums x = row("30:29x9");
        due("read of '" + text + "'", tell(x, text), weight);
        due("count(3)", x.count(3), 0);
        stands(x, spelled);
    }

    // ---- 41 list

    private static void p41NoSuchList() {
        for (int list : new int[] {LEAST, -2, -1, 3, 4, 256, MOST}) {
            leaves("6:1", "list(" + list + ", 1)", x -> x.list(list, 1), NONE);
            leaves("6:1", "list(" + list + ", -1)", x -> x.list(list, -1), NONE);
        }
    }

    private static void p41ThirtyAtMost() {
        NoughtSums x = new NoughtSums();
        due("list(0, 30)", x.list(0, 30), 1);
        due("get(0, 29)", x.get(0, 29), 0);
        due("get(0, 30)", x.get(0, 30), VOID);
        for (int n : new int[] {31, 32, 256, MOST}) {
            leaves("6:1", "list(0, " + n + ")", y -> y.list(0, n), BAD);
            leaves("6:1", "list(1, " + n + ")", y -> y.list(1, n), BAD);
        }
    }

    private static void p41NoneAtAllIsNotMissing() {
        NoughtSums x = new NoughtSums();
        due("list(1, 0)", x.list(1, 0), 1);
        due("count(5)", x.count(5), 1);
        due("get(1, 0)", x.get(1, 0), VOID);
        due("put(1, 0, 1)", x.put(1, 0, 1), PLACE);
        due("alike(1)", x.alike(1), NOT);
    }

    private static void p41LessOneIsMissing() {
        NoughtSums x = new NoughtSums();
        x.film(2);
        due("list(2, -1)", x.list(2, -1), 1);
        due("count(5)", x.count(5), 0);
        due("put(2, 0, 1)", x.put(2, 0, 1), MISSING);
        due("list(2, -1)", x.list(2, -1), 1);
        due("count(5)", x.count(5), 0);
    }

    private static void p41BelowLessOne() {
        for (int n : new int[] {-2, -3, -31, LEAST}) {
            leaves("6:1", "list(0, " + n + ")", x -> x.list(0, n), BELOW);
            leaves("6:1", "list(1, " + n + ")", x -> x.list(1, n), BELOW);
        }
    }

    private static void p41NoneGoesBeforeBadAndBelow() {
        leaves("6:1", "list(3, 31)", x -> x.list(3, 31), NONE);
        leaves("6:1", "list(-1, -2)", x -> x.list(-1, -2), NONE);
    }

    private static void p41AllAreNoughtAgain() {
        NoughtSums x = new NoughtSums();
        x.list(0, 30);
        for (int i = 0; i < 30; i++) x.put(0, i, -1);
        due("list(0, 30)", x.list(0, 30), 1);
        for (int i = 0; i < 30; i++) due("get(0, " + i + ")", x.get(0, i), 0);
        x.put(0, 29, 5);
        x.list(0, 1);
        x.list(0, 30);
        due("get(0, 29)", x.get(0, 29), 0);
        x.put(0, 29, 5);
        x.list(0, -1);
        x.list(0, 30);
        due("get(0, 29)", x.get(0, 29), 0);
    }

    private static void p41TheOtherListsStay() {
        NoughtSums x = new NoughtSums();
        for (int list = 0; list < 3; list++) {
            x.list(list, 2);
            x.put(list, 1, list + 5);
        }
        x.list(1, -1);
        due("get(0, 1)", x.get(0, 1), 5);
        due("get(1, 1)", x.get(1, 1), VOID);
        due("get(2, 1)", x.get(2, 1), 7);
    }

    // ---- 42 put

    private static void p42NoSuchList() {
        for (int list : new int[] {LEAST, -1, 3, 4, MOST}) {
            leaves("6:1", "put(" + list + ", 0, 1)", x -> x.put(list, 0, 1), NONE);
            leaves("6:1", "put(" + list + ", -1, 1)", x -> x.put(list, -1, 1), NONE);
        }
    }

    private static void p42TheListIsMissing() {
        leaves("6:1", "put(1, 0, 1)", x -> x.put(1, 0, 1), MISSING);
    }

    private static void p42MissingGoesBeforePlace() {
        leaves("6:1", "put(1, -1, 1)", x -> x.put(1, -1, 1), MISSING);
        leaves("6:1", "put(1, 30, 1)", x -> x.put(1, 30, 1), MISSING);
    }

    private static void p42NoSuchPlace() {
        for (int i : new int[] {LEAST, -2, -1, 3, 4, 29, 30, 256, MOST}) {
            leaves("6:1", "put(2, " + i + ", 1)", x -> x.put(2, i, 1), PLACE);
        }
        leaves(x -> x.list(0, 0), "put(0, 0, 1)", x -> x.put(0, 0, 1), PLACE);
        leaves(x -> x.list(0, 30), "put(0, 30, 1)", x -> x.put(0, 30, 1), PLACE);
    }

    private static void p42TheFirstAndTheLastPlace() {
        NoughtSums x = new NoughtSums();
        x.list(0, 30);
        due("put(0, 0, 7)", x.put(0, 0, 7), 1);
        due("put(0, 29, 8)", x.put(0, 29, 8), 1);
        due("get(0, 0)", x.get(0, 0), 7);
        due("get(0, 29)", x.get(0, 29), 8);
        for (int i = 1; i < 29; i++) due("get(0, " + i + ")", x.get(0, i), 0);
    }

    private static void p42EveryLongIsTaken() {
        NoughtSums x = new NoughtSums();
        x.list(0, 1);
        for (long v : new long[] {Long.MIN_VALUE, Long.MIN_VALUE + 1, -1, 0, 1, 1L << 32, Long.MAX_VALUE}) {
            due("put(0, 0, " + v + ")", x.put(0, 0, v), 1);
            due("get(0, 0)", x.get(0, 0), v);
        }
    }

    // ---- 43 get

    private static void p43NoSuchListOrMissing() {
        for (int list : new int[] {LEAST, -1, 1, 3, 4, MOST}) {
            leaves("6:1", "get(" + list + ", 0)", x -> x.get(list, 0), VOID);
        }
    }

    private static void p43NoSuchPlace() {
        for (int i : new int[] {LEAST, -2, -1, 3, 4, 30, 256, MOST}) {
            leaves("6:1", "get(2, " + i + ")", x -> x.get(2, i), VOID);
        }
        leaves("6:1", "get(2, 2)", x -> x.get(2, 2), 0);
        leaves("6:1", "get(2, 1)", x -> x.get(2, 1), Long.MAX_VALUE);
        due("get(0, -1)", new NoughtSums().get(0, -1), VOID);
    }

    private static void p43AnEmptyList() {
        NoughtSums x = new NoughtSums();
        x.list(0, 0);
        due("get(0, 0)", x.get(0, 0), VOID);
        due("get(0, -1)", x.get(0, -1), VOID);
    }

    // ---- 44 film

    private static void p44NoSuchList() {
        for (int list : new int[] {LEAST, -1, 3, 4, MOST}) {
            leaves("6:1", "film(" + list + ")", x -> x.film(list), NONE);
        }
    }

    private static void p44TheLeastAndTheGreatestN() {
        NoughtSums x = row("2:1x9");
        due("film(0)", x.film(0), 2);
        due("get(0, 1)", x.get(0, 1), 9);
        due("get(0, 2)", x.get(0, 2), VOID);
        tell(x, "30:0x2,29x9");
        due("film(0)", x.film(0), 30);
        due("get(0, 0)", x.get(0, 0), 2);
        due("get(0, 29)", x.get(0, 29), 9);
        due("get(0, 1)", x.get(0, 1), 0);
    }

    private static void p44AMissingListIsThereThen() {
        NoughtSums x = row("6:5x3");
        due("film(1)", x.film(1), 6);
        due("count(5)", x.count(5), 1);
        due("get(1, 5)", x.get(1, 5), 3);
    }

    private static void p44ALongerListBecomesShorter() {
        NoughtSums x = row("6:5x3");
        x.list(0, 30);
        for (int i = 0; i < 30; i++) x.put(0, i, 77);
        due("film(0)", x.film(0), 6);
        for (int i = 0; i < 6; i++) due("get(0, " + i + ")", x.get(0, i), i == 5 ? 3 : 0);
        due("get(0, 6)", x.get(0, 6), VOID);
    }

    private static void p44TheListIsNotTheRow() {
        NoughtSums x = row("6:5x3");
        x.film(0);
        x.set(5, 4);
        due("get(0, 5)", x.get(0, 5), 3);
        x.put(0, 5, 9);
        due("of(5)", x.of(5), 4);
    }

    private static void p44NothingIsFilmedToo() {
        NoughtSums x = new NoughtSums();
        due("film(2)", x.film(2), 6);
        for (int i = 0; i < 6; i++) due("get(2, " + i + ")", x.get(2, i), 0);
    }

    // ---- 45 feed

    private static void p45TheLeastAndTheGreatestByte() {
        NoughtSums x = new NoughtSums();
        due("feed(32)", x.feed(32), 1);
        due("feed(126)", x.feed(126), 2);
        for (int letter : new int[] {LEAST, -1, 0, 9, 10, 31, 127, 128, 255, 256 + 54, 65536 + 54, MOST}) {
            leaves("6:1", "feed(" + letter + ")", y -> y.feed(letter), BAD);
        }
    }

    private static void p45EachByteBetween() {
        NoughtSums x = new NoughtSums();
        for (int letter = 32; letter <= 126; letter++) due("feed(" + letter + ")", x.feed(letter), letter - 31);
    }

    private static void p45AHundredAtMost() {
        NoughtSums x = new NoughtSums();
        for (int i = 1; i <= 100; i++) due("feed(54)", x.feed(54), i);
        due("feed(54)", x.feed(54), FULL);
        due("count(3)", x.count(3), 100);
        leaves(y -> write(y, many("7", 100)), "feed(54)", y -> y.feed(54), FULL);
    }

    private static void p45WhatIsRefusedIsNotOnTheTape() {
        // 100 bytes that are a TEXT: the byte that finds no room would make it WRONG.
        String text = "12:" + many("1,", 8) + many("2,", 8) + many("3,", 8) + many("4,", 8) + many("5,", 8)
                + many("6,", 8) + "7";
        NoughtSums x = new NoughtSums();
        write(x, text);
        due("count(3)", x.count(3), 100);
        due("feed('x')", x.feed('x'), FULL);
        due("feed(31)", x.feed(31), BAD);
        due("read()", x.read(), 49);
        stands(x, "12:1x8,2x8,3x8,4x8,5x8,6x8,7");
    }

    private static void p45BadGoesBeforeFull() {
        leaves(x -> write(x, many("7", 100)), "feed(31)", x -> x.feed(31), BAD);
        leaves(x -> write(x, many("7", 100)), "feed(127)", x -> x.feed(127), BAD);
    }

    // ---- 46 wipe

    private static void p46AnEmptyTape() {
        due("wipe()", new NoughtSums().wipe(), 0);
    }

    private static void p46AFullTape() {
        NoughtSums x = new NoughtSums();
        write(x, many("7", 100));
        due("wipe()", x.wipe(), 100);
        due("count(3)", x.count(3), 0);
        due("wipe()", x.wipe(), 0);
        due("feed(54)", x.feed(54), 1);
    }

    private static void p46NothingOfItIsReadThen() {
        NoughtSums x = new NoughtSums();
        write(x, "6:1x9");
        x.wipe();
        write(x, "7:");
        due("read()", x.read(), 0);
        stands(x, "7:");
    }

    private static void p46OnlyTheTapeIsWiped() {
        NoughtSums x = filledUp("7:1,6x9");
        due("wipe()", x.wipe(), 7);
        int[] due = {7, 2, 3, 0, 3, 2};
        for (int what = 0; what < 6; what++) due("count(" + what + ")", x.count(what), due[what]);
        stands(x, "7:1,6x9");
    }

    // ---- 47 read

    private static void p47AnEmptyTapeEndsTooEarly() {
        refuses("", -100);
    }

    private static void p47EndsTooEarly() {
        refuses("6", -101);
        refuses("12", -102);
        refuses("6:0,", -104);
        refuses("12:11,", -106);
        refuses("6:0x", -104);
        refuses("6:0x2,", -106);
        refuses("6:0x2,1x", -108);
    }

    private static void p47TheFirstByteIsAFault() {
        for (char letter : " !/:;,xX-+~a".toCharArray()) refuses(letter + "6:0", -100);
    }

    private static void p47BytesBesideTheFigures() {
        // / and : stand beside the figures; : goes on behind N alone.
        refuses("/", -100);
        refuses("6/", -101);
        refuses("6;0", -101);
        refuses("6:/", -102);
        refuses("6::", -102);
        refuses("6:0/", -103);
        refuses("6:0:", -103);
        refuses("6:0x/", -104);
        refuses("6:0x:", -104);
    }

    private static void p47NumbersHaveTwoFiguresAtMost() {
        reads("06:05", 1, "6:5");
        reads("30:29", 1, "30:29");
        refuses("006:0", -102);
        refuses("300:0", -102);
        refuses("30:029", -105);
        refuses("30:100", -105);
    }

    private static void p47CountsHaveOneFigure() {
        reads("6:0x1", 1, "6:0");
        reads("6:0x9", 9, "6:0x9");
        refuses("6:0x0", -104);
        refuses("6:0x10", -105);
        refuses("6:0x99", -105);
        refuses("6:0x01", -104);
        refuses("6:0x-1", -104);
        refuses("6:0xx", -104);
        refuses("6:0x2x", -105);
    }

    private static void p47ItemsHaveACommaBetween() {
        reads("6:0,1", 2, "6:0,1");
        refuses("6:,", -102);
        refuses("6:,0", -102);
        refuses("6:0,,1", -104);
        refuses("6:0 1", -103);
        refuses("6:0, 1", -104);
        refuses("6:x2", -102);
        refuses("6:0,x2", -104);
        refuses("6:0:1", -103);
    }

    private static void p47NoItems() {
        reads("6:", 0, "6:");
        reads("02:", 0, "2:");
        reads("30:", 0, "30:");
    }

    private static void p47NThatMayNotBeIsWrong() {
        reads("2:1", 1, "2:1");
        reads("30:1", 1, "30:1");
        refuses("1:", WRONG);
        refuses("1:0", WRONG);
        refuses("0:", WRONG);
        refuses("00:", WRONG);
        refuses("01:0", WRONG);
        refuses("31:", WRONG);
        refuses("31:30", WRONG);
        refuses("99:0x9", WRONG);
    }

    private static void p47ARootThatMayNotBeIsWrong() {
        reads("6:5", 1, "6:5");
        refuses("6:6", WRONG);
        refuses("6:06", WRONG);
        refuses("6:99", WRONG);
        refuses("30:30", WRONG);
        refuses("2:2", WRONG);
        refuses("6:0,1,6", WRONG);
        refuses("6:6,0", WRONG);
    }

    private static void p47MoreThanNineTogetherIsWrong() {
        reads("6:0x8,0", 9, "6:0x9");
        reads("6:0x4,1,0x5", 10, "6:0x9,1");
        reads("6:" + many("3,", 8) + "3", 9, "6:3x9");
        refuses("6:" + many("3,", 9) + "3", WRONG);
        refuses("6:0x9,0", WRONG);
        refuses("6:0,0x9", WRONG);
        refuses("6:0x5,1,0x5", WRONG);
        refuses("6:0x9,1,0x9", WRONG);
        refuses("6:00x5,0x5", WRONG);
    }

    private static void p47AFaultGoesBeforeWrong() {
        refuses("99", -102);
        refuses("1:0,", -104);
        refuses("31:0x", -105);
        refuses("6:6;", -103);
        refuses("6:0x9,0x9,", -110);
        refuses("6:99,x", -105);
    }

    private static void p47AFullTape() {
        reads("06:" + many("00,", 8) + many("01,", 8) + many("02,", 8) + many("03,", 7) + "3x2", 33,
                "6:0x8,1x8,2x8,3x9");
        refuses(many("7", 100), -102);
        refuses("6:" + many("1,", 49), -200);
        refuses("12:" + many("1,", 48) + "x", -199);
    }

    private static void p47TheTapeIsEmptyBehindEachRead() {
        for (String text : new String[] {"6:1", "6:6", "6:1,", "", "x"}) {
            NoughtSums x = new NoughtSums();
            tell(x, text);
            due("count(3)", x.count(3), 0);
            due("read()", x.read(), -100);
            due("feed(54)", x.feed(54), 1);
        }
    }

    private static void p47NothingOfTheRowBeforeStays() {
        NoughtSums x = new NoughtSums();
        x.base(30);
        for (int e = 0; e < 30; e++) x.set(e, 9);
        due("read()", tell(x, "30:15"), 1);
        stands(x, "30:15");
    }

    private static void p47TheRestStays() {
        NoughtSums x = filledUp("7:1,6x9");
        due("read()", x.read(), 5);
        int[] due = {8, 2, 3, 0, 3, 2};
        for (int what = 0; what < 6; what++) due("count(" + what + ")", x.count(what), due[what]);
        due("undo()", x.undo(), 6);
    }

    private static void p47AWrongTextLeavesNothingForTheNext() {
        NoughtSums x = row("7:1");
        due("read()", tell(x, "30:29x9,29x9"), WRONG);
        due("read()", tell(x, "30:29"), 1);
        stands(x, "30:29");
        due("read()", tell(x, "31:5"), WRONG);
        due("read()", tell(x, "6:4"), 1);
        stands(x, "6:4");
    }

    // ---- 48 spelled

    private static void p48NoSuchByte() {
        for (int i : new int[] {LEAST, -3, -2, 5, 6, 256, MOST}) {
            leaves("6:1x2", "spelled(" + i + ")", x -> x.spelled(i), NONE);
        }
        leaves("6:1x2", "spelled(-1)", x -> x.spelled(-1), 5);
        leaves("6:1x2", "spelled(0)", x -> x.spelled(0), '6');
        leaves("6:1x2", "spelled(4)", x -> x.spelled(4), '2');
    }

    private static void p48NoRoots() {
        stands(row("2:"), "2:");
        stands(row("30:"), "30:");
        due("spelled(-1)", row("30:").spelled(-1), 3);
        due("spelled(2)", row("30:").spelled(2), ':');
        due("spelled(3)", row("30:").spelled(3), NONE);
    }

    private static void p48ACountOfOneIsNotTold() {
        stands(row("6:1x1"), "6:1");
        stands(row("6:1x2"), "6:1x2");
        stands(row("6:1x9"), "6:1x9");
    }

    private static void p48NineAndTenAreOneAndTwoFigures() {
        stands(row("9:8"), "9:8");
        stands(row("10:9"), "10:9");
        stands(row("11:9,10"), "11:9,10");
        stands(row("20:9x2,10x2,19"), "20:9x2,10x2,19");
    }

    private static void p48TheLongest() {
        NoughtSums x = new NoughtSums();
        x.base(30);
        for (int e = 0; e < 30; e++) x.set(e, 9);
        StringBuilder text = new StringBuilder("30:");
        for (int e = 0; e < 30; e++) text.append(e == 0 ? "" : ",").append(e).append("x9");
        due("spelled(-1)", x.spelled(-1), 142);
        due("spelled(141)", x.spelled(141), '9');
        due("spelled(142)", x.spelled(142), NONE);
        stands(x, text.toString());
    }

    private static void p48ReadAgainItIsTheSame() {
        for (String text : new String[] {"2:0x9,1", "10:0,9x2", "30:0,10x2,29x9"}) stands(row(text), text);
    }

    // ---- 49 image

    private static void p49OfANewObject() {
        NoughtSums x = new NoughtSums();
        due("image()", x.image(), 0);
        x.base(9);
        x.plan(0, 1);
        x.keep(0);
        due("undo()", x.undo(), 0);
        due("count(0)", x.count(0), 6);
        due("count(2)", x.count(2), 0);
        due("count(4)", x.count(4), 0);
    }

    private static void p49OfAllThatIsFull() {
        NoughtSums x = new NoughtSums();
        x.base(30);
        for (int e = 0; e < 30; e++) x.set(e, 9);
        for (int i = 0; i < 8; i++) {
            x.plan(0, 1);
            x.keep(0);
            x.keep(1);
        }
        due("image()", x.image(), 270);
        x.base(2);
        x.unplan();
        for (int k = 0; k < 8; k++) {
            x.drop(0, 0);
            x.drop(1, 0);
        }
        for (int k = 0; k < 8; k++) x.keep(0);
        due("undo()", x.undo(), 270);
        due("count(2)", x.count(2), 8);
        due("count(4)", x.count(4), 16);
        due("where(29)", x.where(29), 7);
        for (int k = 0; k < 8; k++) {
            due("held(0, " + k + ")", x.held(0, k), 270);
            due("held(1, " + k + ")", x.held(1, k), 270);
        }
        due("lay(1, 7)", x.lay(1, 7), 270);
        due("count(0)", x.count(0), 30);
    }

    private static void p49ALaterOneTakesTheFirstOnesPlace() {
        NoughtSums x = row("6:1");
        x.image();
        x.set(1, 5);
        due("image()", x.image(), 5);
        x.clear();
        due("undo()", x.undo(), 5);
        due("undo()", x.undo(), 5);
    }

    private static void p49TakingItChangesNothingElse() {
        NoughtSums x = filledUp("7:1,6x9");
        due("image()", x.image(), 10);
        int[] due = {7, 2, 3, 7, 3, 2};
        for (int what = 0; what < 6; what++) due("count(" + what + ")", x.count(what), due[what]);
        stands(x, "7:1,6x9");
    }

    // ---- 50 undo

    private static void p50ThereIsNone() {
        leaves(x -> {
            tell(x, "7:1,6x9");
            x.plan(0, 3);
            x.keep(1);
            x.film(2);
            write(x, "6:2");
        }, "undo()", x -> x.undo(), STATE);
        due("undo()", new NoughtSums().undo(), STATE);
    }

    private static void p50NothingWasChanged() {
        NoughtSums x = row("7:1,6x9");
        x.plan(0, 3);
        x.keep(1);
        x.image();
        due("undo()", x.undo(), 10);
        stands(x, "7:1,6x9");
        due("where(0)", x.where(0), 3);
        due("held(1, 0)", x.held(1, 0), 10);
    }

    private static void p50AgainAndAgain() {
        NoughtSums x = row("7:1");
        x.image();
        for (int i = 0; i < 5; i++) {
            x.base(30 - i);
            x.plan(2, 0);
            x.keep(0);
            due("undo()", x.undo(), 1);
            stands(x, "7:1");
            due("count(2)", x.count(2), 0);
            due("count(4)", x.count(4), 0);
        }
    }

    private static void p50ListsAndTheTapeStayAsTheyAre() {
        NoughtSums x = row("7:1");
        x.list(0, 2);
        x.put(0, 1, 5);
        x.film(2);
        write(x, "6:3");
        x.image();
        x.put(0, 1, 6);
        x.list(1, 0);
        x.list(2, -1);
        write(x, "x4");
        due("undo()", x.undo(), 1);
        due("get(0, 1)", x.get(0, 1), 6);
        due("count(5)", x.count(5), 2);
        due("put(2, 0, 1)", x.put(2, 0, 1), MISSING);
        due("count(3)", x.count(3), 5);
        due("read()", x.read(), 4);
        stands(x, "6:3x4");
    }

    private static void p50WhatComesBehindDoesNotTouchTheImage() {
        NoughtSums x = row("7:1");
        x.plan(0, 1);
        x.keep(0);
        x.image();
        due("undo()", x.undo(), 1);
        x.set(1, 9);
        x.unplan();
        x.plan(2, 0);
        x.drop(0, 0);
        x.keep(0);
        due("held(0, 0)", x.held(0, 0), 9);
        due("undo()", x.undo(), 1);
        due("where(1)", x.where(1), 2);
        due("held(0, 0)", x.held(0, 0), 1);
    }

    // ---- 51 count

    private static void p51WhatIsNoughtToFive() {
        for (int what : new int[] {LEAST, -2, -1, 6, 7, 256, MOST}) {
            leaves("6:1", "count(" + what + ")", x -> x.count(what), NONE);
        }
        leaves("6:1", "count(0)", x -> x.count(0), 6);
        leaves("6:1", "count(5)", x -> x.count(5), 2);
    }

    private static void p51NothingThere() {
        NoughtSums x = new NoughtSums();
        due("count(0)", x.count(0), 6);
        for (int what = 1; what <= 5; what++) due("count(" + what + ")", x.count(what), 0);
    }

    private static void p51AllPlacesFull() {
        NoughtSums x = new NoughtSums();
        x.base(30);
        for (int e = 0; e < 30; e++) x.set(e, 9);
        for (int i = 0; i < 8; i++) {
            x.plan(0, 1);
            x.keep(0);
            x.keep(1);
        }
        for (int i = 0; i < 100; i++) x.feed(54);
        for (int list = 0; list < 3; list++) x.list(list, 30);
        int[] due = {30, 30, 8, 100, 16, 3};
        for (int what = 0; what < 6; what++) due("count(" + what + ")", x.count(what), due[what]);
    }

    private static void p51RootsNotWeight() {
        due("count(1)", row("6:0x9").count(1), 1);
        due("count(1)", row("6:0x9,5").count(1), 2);
    }

    private static void p51AnEmptyListIsThere() {
        NoughtSums x = new NoughtSums();
        x.list(0, 0);
        due("count(5)", x.count(5), 1);
    }
}
