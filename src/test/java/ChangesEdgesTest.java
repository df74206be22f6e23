/** The edges of changes and of what is kept: promises 14 to 17 and 30 to 32. */
final class ChangesEdgesTest {
    private static final Check CHECK = new Check("ChangesEdgesTest");
    private static final int BAD = FourTenGates.BAD, NO = FourTenGates.NO, FULL = FourTenGates.FULL;
    private static final int[] FAR = {Integer.MIN_VALUE, Integer.MAX_VALUE, Integer.MIN_VALUE + 5, 65536};

    public static void main(String[] args) {
        lateByNoughtToThirty();
        lateOfTrainsSuchAsThereAre();
        shutFromNoughtToSixty();
        shutUpToSix();
        leaveSuchAsThereAre();
        leaveOneDown();
        undoOfNone();
        undoOfEachKind();
        undoOfWhatChangedNothing();
        undoOfTheLastEight();
        undoneNoMore();
        keepTwoAtMost();
        backOfNone();
        backAsKeptLast();
        backLeavesNothingToBeUndone();
        keptAreOnlyLatenessAndClosings();
        countOfEach();
        CHECK.end();
    }

    private static void late(FourTenGates x, int i, int minutes, int want) {
        CHECK.due("late(" + i + ", " + minutes + ")", x.late(i, minutes), want);
    }

    private static void lateByNoughtToThirty() {
        CHECK.about("14: late by 0 to 30 minutes (in place of what it was; 0 at first): how many minutes it was; BAD");
        FourTenGates x = new FourTenGates();
        int was = 0;
        for (int minutes = -2; minutes <= 32; minutes++) {
            boolean right = minutes >= 0 && minutes <= 30;
            late(x, 1, minutes, right ? was : BAD);
            was = right ? minutes : was;
            CHECK.due("train(1, 2) behind late(1, " + minutes + ")", x.train(1, 2), was);
            CHECK.due("train(0, 2), another one", x.train(0, 2), 0);
        }
        late(x, 1, 0, 30);
        late(x, 1, 30, 0);
        CHECK.due("train(1, 2)", x.train(1, 2), 30);
        int[] wrong = {-1, 31, Integer.MIN_VALUE, Integer.MAX_VALUE};
        for (int minutes : wrong) {
            Twins.changesNothing(CHECK, "late(1, " + minutes + ")", y -> y.late(1, 3), y -> y.late(1, minutes), BAD);
        }
    }

    private static void lateOfTrainsSuchAsThereAre() {
        CHECK.about("14: TRAINS such as there are; BAD");
        for (int trains = 1; trains <= 6; trains++) {
            FourTenGates x = Check.laid("t1,0;".repeat(trains));
            for (int i = -1; i <= 7; i++) {
                late(x, i, 5, i >= 0 && i < trains ? 0 : BAD);
            }
            CHECK.due(trains + ": count(4)", x.count(4), trains);
        }
        int[] wrong = {-1, 4, 5, 6, Integer.MIN_VALUE, Integer.MAX_VALUE};
        for (int i : wrong) {
            Twins.changesNothing(CHECK, "late(" + i + ", 5)", y -> y.late(0, 3), y -> y.late(i, 5), BAD);
        }
    }

    private static void shutFromNoughtToSixty() {
        CHECK.about("15: a CLOSING (0 to 60, a less than b): how many; BAD");
        for (int a = -2; a <= 62; a++) {
            FourTenGates x = Check.laid("t1,0;");
            for (int b = -2; b <= 62; b++) {
                boolean right = a >= 0 && b <= 60 && a < b;
                CHECK.due("shut(" + a + ", " + b + ")", x.shut(a, b), right ? 1 : BAD);
                if (right) {
                    x.leave(0);
                }
            }
        }
        int[][] wrong = {{5, 5}, {6, 5}, {-1, 5}, {0, 61}, {60, 60}, {0, 0}, {60, 61}, {59, 61}, {-1, 61}, {5, -1},
            {Integer.MIN_VALUE, Integer.MAX_VALUE}, {0, Integer.MAX_VALUE}, {Integer.MIN_VALUE, 60}};
        for (int[] w : wrong) {
            Twins.changesNothing(CHECK, "shut(" + w[0] + ", " + w[1] + ")", y -> y.leave(0), y -> y.shut(w[0], w[1]), BAD);
        }
    }

    private static void six(FourTenGates x) {
        x.shut(50, 51);
        x.shut(50, 51);
        x.shut(0, 60);
    }

    private static void shutUpToSix() {
        CHECK.about("15: 6 at most; FULL; BAD ahead of FULL");
        FourTenGates x = Check.laid("t0,2;");
        for (int many = 1; many <= 6; many++) {
            CHECK.due("shut(1, 2)", x.shut(1, 2), many);
        }
        CHECK.due("shut(1, 2), the seventh", x.shut(1, 2), FULL);
        CHECK.due("leave(5)", x.leave(5), 5);
        CHECK.due("shut(1, 2), a sixth again", x.shut(1, 2), 6);
        CHECK.due("shut(3, 4), the seventh", x.shut(3, 4), FULL);
        CHECK.due("undo()", x.undo(), 7);
        CHECK.due("shut(1, 2), a sixth again", x.shut(1, 2), 6);
        Twins.changesNothing(CHECK, "shut(1, 2), the seventh", ChangesEdgesTest::six, y -> y.shut(1, 2), FULL);
        Twins.changesNothing(CHECK, "shut(2, 2), the seventh", ChangesEdgesTest::six, y -> y.shut(2, 2), BAD);
        Twins.changesNothing(CHECK, "shut(0, 61), the seventh", ChangesEdgesTest::six, y -> y.shut(0, 61), BAD);
        CHECK.due("shut(1, 2) of six told by the text", Check.laid("t1,0;" + "k1,2;".repeat(6)).shut(1, 2), FULL);
        CHECK.due("shut(1, 2) of five told by the text", Check.laid("t1,0;" + "k1,2;".repeat(5)).shut(1, 2), 6);
    }

    private static void leaveSuchAsThereAre() {
        CHECK.about("16: CLOSINGS such as there are: how many are left; BAD");
        for (int many = 0; many <= 6; many++) {
            for (int k = -1; k <= 7; k++) {
                FourTenGates x = Check.laid("t1,0;" + "k1,2;".repeat(many));
                boolean right = k >= 0 && k < many;
                CHECK.due(many + ": leave(" + k + ")", x.leave(k), right ? many - 1 : BAD);
                CHECK.due(many + ": count(2)", x.count(2), right ? many - 1 : many);
                CHECK.due(many + ": count(4)", x.count(4), right ? 1 : 0);
            }
        }
        int[] wrong = {-1, 4, 6, Integer.MIN_VALUE, Integer.MAX_VALUE};
        for (int k : wrong) {
            Twins.changesNothing(CHECK, "leave(" + k + ")", y -> y.shut(1, 2), y -> y.leave(k), BAD);
        }
        Twins.changesNothing(CHECK, "leave(0) of none", ChangesEdgesTest::leaveAll, y -> y.leave(0), BAD);
    }

    private static void leaveAll(FourTenGates x) {
        x.leave(2);
        x.leave(1);
        x.leave(0);
    }

    private static void leaveOneDown() {
        CHECK.about("16: those behind it come one down");
        for (int k = 0; k < 6; k++) {
            FourTenGates x = Check.laid("t59,2;c0;g1;k0,2;k10,12;k20,22;k30,32;k40,42;k50,52;");
            x.leave(k);
            for (int place = 0; place < 6; place++) {
                CHECK.due("leave(" + k + "), gates in CLOSING " + place, x.gates(0, 60 * place + 3), place == k ? 0 : 2);
            }
            for (int place = 0; place < 5; place++) {
                int told = place < k ? place : place + 1;
                CHECK.due("leave(" + place + ") behind leave(" + k + ")", x.leave(place), 4);
                CHECK.due("gates in CLOSING " + told + ", left out", x.gates(0, 60 * told + 3), 0);
                x.undo();
            }
        }
    }

    private static void undoOfNone() {
        CHECK.about("17: UNDONE: how many more can be; NO");
        CHECK.due("new: undo()", new FourTenGates().undo(), NO);
        CHECK.due("laid: undo()", Check.laid("t1,0;").undo(), NO);
        Twins.changesNothing(CHECK, "undo() of none", y -> y.keep(), y -> y.undo(), NO);
        FourTenGates x = new FourTenGates();
        x.late(0, 5);
        CHECK.due("undo() of one", x.undo(), 0);
        CHECK.due("undo() of no more", x.undo(), NO);
        CHECK.due("train(0, 2)", x.train(0, 2), 0);
    }

    private static void undoOfEachKind() {
        CHECK.about("17: the latest of these: late, told, left out");
        FourTenGates x = new FourTenGates();
        int[] costs = new int[5];
        costs[0] = x.cost(0);
        x.late(1, 1);
        costs[1] = x.cost(0);
        x.shut(14, 16);
        costs[2] = x.cost(0);
        x.leave(0);
        costs[3] = x.cost(0);
        x.late(1, 0);
        for (int left = 3; left >= 0; left--) {
            CHECK.due("undo()", x.undo(), left);
            CHECK.due("cost(0), " + left + " left", x.cost(0), costs[left]);
            CHECK.due("count(4)", x.count(4), left);
        }
        Twins.tellAlike(CHECK, "all undone", x, new FourTenGates());
        // a closing that was left out is back in its place, ahead of those behind it
        FourTenGates y = Check.laid("t59,2;c0;g1;k0,2;k10,12;k20,22;");
        y.leave(1);
        y.undo();
        y.leave(1);
        CHECK.due("gates(0, 63)", y.gates(0, 63), 0);
        CHECK.due("gates(0, 123)", y.gates(0, 123), 2);
    }

    private static void undoOfWhatChangedNothing() {
        CHECK.about("17: such by which nothing becomes another, too");
        FourTenGates x = new FourTenGates();
        late(x, 0, 0, 0);
        CHECK.due("count(4)", x.count(4), 1);
        late(x, 0, 4, 0);
        late(x, 0, 4, 4);
        CHECK.due("count(4)", x.count(4), 3);
        CHECK.due("undo()", x.undo(), 2);
        CHECK.due("train(0, 2)", x.train(0, 2), 4);
        CHECK.due("undo()", x.undo(), 1);
        CHECK.due("train(0, 2)", x.train(0, 2), 0);
        CHECK.due("undo()", x.undo(), 0);
        CHECK.due("undo()", x.undo(), NO);
    }

    private static void undoOfTheLastEight() {
        CHECK.about("17: the last 8 can be");
        for (int changes = 7; changes <= 10; changes++) {
            FourTenGates x = new FourTenGates();
            for (int k = 1; k <= changes; k++) {
                x.late(0, k);
            }
            int can = Math.min(changes, 8);
            CHECK.due(changes + " changes: count(4)", x.count(4), can);
            for (int left = can - 1; left >= 0; left--) {
                CHECK.due(changes + " changes: undo()", x.undo(), left);
                CHECK.due(changes + " changes: train(0, 2)", x.train(0, 2), changes - can + left);
            }
            CHECK.due(changes + " changes: undo() of no more", x.undo(), NO);
            CHECK.due(changes + " changes: train(0, 2) at last", x.train(0, 2), changes - can);
        }
        // told and left out count with the late ones; a ninth drops the first one, the refused tenth drops none
        FourTenGates y = new FourTenGates();
        y.late(0, 1);
        for (int k = 0; k < 3; k++) {
            y.shut(50, 51);
        }
        for (int k = 0; k < 5; k++) {
            y.leave(0);
        }
        y.shut(1, 1);
        y.late(0, 31);
        y.leave(1);
        for (int left = 7; left >= 0; left--) {
            CHECK.due("mixed: undo()", y.undo(), left);
        }
        CHECK.due("mixed: count(2)", y.count(2), 3);
        CHECK.due("mixed: train(0, 2), the first one stays", y.train(0, 2), 1);
        CHECK.due("mixed: undo() of no more", y.undo(), NO);
    }

    private static void undoneNoMore() {
        CHECK.about("17: what is UNDONE is gone; what comes then can be");
        FourTenGates x = new FourTenGates();
        x.late(0, 1);
        x.late(0, 2);
        x.undo();
        late(x, 0, 9, 1);
        CHECK.due("undo()", x.undo(), 1);
        CHECK.due("train(0, 2)", x.train(0, 2), 1);
        CHECK.due("undo()", x.undo(), 0);
        CHECK.due("train(0, 2)", x.train(0, 2), 0);
        // what was seen or kept is none of these
        x.seen(0, 0);
        x.keep();
        x.write('t');
        CHECK.due("undo() of seen, keep, write", x.undo(), NO);
    }

    private static void keepTwoAtMost() {
        CHECK.about("30: KEPT: how many; 2 at most; FULL");
        FourTenGates x = new FourTenGates();
        CHECK.due("keep()", x.keep(), 1);
        CHECK.due("keep()", x.keep(), 2);
        CHECK.due("keep(), the third", x.keep(), FULL);
        CHECK.due("count(5)", x.count(5), 2);
        CHECK.due("back()", x.back(), 1);
        CHECK.due("keep()", x.keep(), 2);
        CHECK.due("keep(), the third", x.keep(), FULL);
        Twins.changesNothing(CHECK, "keep(), the third", ChangesEdgesTest::twoKept, y -> y.keep(), FULL);
    }

    private static void twoKept(FourTenGates x) {
        x.late(0, 1);
        x.keep();
        x.shut(0, 60);
        x.keep();
        x.late(0, 30);
        x.leave(0);
    }

    private static void backOfNone() {
        CHECK.about("31: NO");
        CHECK.due("new: back()", new FourTenGates().back(), NO);
        Twins.changesNothing(CHECK, "back() of none", y -> y.late(0, 5), y -> y.back(), NO);
        FourTenGates x = new FourTenGates();
        x.keep();
        CHECK.due("back() of one", x.back(), 0);
        CHECK.due("back() of no more", x.back(), NO);
    }

    private static void backAsKeptLast() {
        CHECK.about("31: as KEPT last (it is KEPT no more then): how many are left");
        FourTenGates x = new FourTenGates();
        twoKept(x);
        // asked ahead, so that an answer that is left over would show
        CHECK.due("dinner(0, 0) ahead", x.dinner(0, 0), FourTenGates.NONE);
        x.leave(2);
        CHECK.due("dinner(0, 0) ahead, left out", x.dinner(0, 0) > 0 ? 1 : 0, 1);
        CHECK.due("back()", x.back(), 1);
        CHECK.due("train(0, 2)", x.train(0, 2), 1);
        CHECK.due("count(2)", x.count(2), 4);
        CHECK.due("dinner(0, 0), shut for all the hour", x.dinner(0, 0), FourTenGates.NONE);
        CHECK.due("count(5)", x.count(5), 1);
        CHECK.due("back()", x.back(), 0);
        CHECK.due("train(0, 2)", x.train(0, 2), 1);
        CHECK.due("count(2)", x.count(2), 3);
        CHECK.due("count(5)", x.count(5), 0);
        CHECK.due("back()", x.back(), NO);
        // what is kept stays as it was kept, whatever comes behind
        FourTenGates y = new FourTenGates();
        y.keep();
        y.late(0, 9);
        y.leave(0);
        y.keep();
        CHECK.due("back() behind changes", y.back(), 1);
        CHECK.due("train(0, 2)", y.train(0, 2), 9);
        CHECK.due("count(2)", y.count(2), 2);
        CHECK.due("back() to the first", y.back(), 0);
        Twins.tellAlike(CHECK, "kept first and back", y, new FourTenGates());
    }

    private static void backLeavesNothingToBeUndone() {
        CHECK.about("31: nothing is UNDONE then");
        FourTenGates x = new FourTenGates();
        x.late(0, 1);
        x.keep();
        CHECK.due("count(4) behind keep()", x.count(4), 1);
        for (int k = 0; k < 9; k++) {
            x.late(1, k);
        }
        CHECK.due("count(4)", x.count(4), 8);
        CHECK.due("back()", x.back(), 0);
        CHECK.due("count(4) behind back()", x.count(4), 0);
        CHECK.due("undo() behind back()", x.undo(), NO);
        CHECK.due("train(0, 2)", x.train(0, 2), 1);
        late(x, 0, 2, 1);
        CHECK.due("undo() of what came behind", x.undo(), 0);
        CHECK.due("train(0, 2)", x.train(0, 2), 1);
    }

    private static void keptAreOnlyLatenessAndClosings() {
        CHECK.about("30, 31: KEPT are how late TRAINS are, CLOSINGS");
        FourTenGates x = new FourTenGates();
        x.seen(1, 0);
        x.write('t');
        x.keep();
        x.seen(2, 0);
        x.write('1');
        x.back();
        CHECK.due("count(3)", x.count(3), 2);
        CHECK.due("count(6)", x.count(6), 2);
        CHECK.due("count(0)", x.count(0), 4);
    }

    private static void countOfEach() {
        CHECK.about("32: 0 TRAINS to 6 letters of THE TEXT; BAD");
        int[] first = {4, 6, 3, 0, 0, 0, 0};
        for (int what = -1; what <= 7; what++) {
            CHECK.due("new: count(" + what + ")", new FourTenGates().count(what), what >= 0 && what <= 6 ? first[what] : BAD);
        }
        for (int what : FAR) {
            CHECK.due("count(" + what + ")", new FourTenGates().count(what), BAD);
            Twins.changesNothing(CHECK, "count(" + what + ")", ChangesEdgesTest::twoKept, y -> y.count(what), BAD);
        }
        String most = "t1,0;".repeat(6) + "u1,0;".repeat(8) + "k1,2;".repeat(6);
        FourTenGates x = Check.laid(most);
        for (int k = 0; k < 10; k++) {
            x.late(0, k);
            x.seen(k, 0);
            x.keep();
            x.shut(1, 2);
        }
        Check.write(x, "x".repeat(110));
        int[] full = {6, 8, 6, 8, 8, 2, 200};
        for (int what = 0; what < full.length; what++) {
            CHECK.due("full: count(" + what + ")", x.count(what), full[what]);
        }
    }
}
