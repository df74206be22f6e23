/** Promises 14 to 17 and 30 to 32: late, shut, leave, undo, keep, back, count. */
final class ChangesTest {
    private static final Check CHECK = new Check("ChangesTest");
    private static final int BAD = FourTenGates.BAD, NO = FourTenGates.NO, FULL = FourTenGates.FULL;

    public static void main(String[] args) {
        late();
        shut();
        leave();
        undo();
        undoIsEightDeep();
        refusedCallsChangeNothing();
        keepAndBack();
        count();
        CHECK.end();
    }

    private static void late() {
        FourTenGates x = Check.laid("t10,2;c1;");
        CHECK.due("cost(0)", x.cost(0), 300);
        CHECK.due("late(0, 30)", x.late(0, 30), 0);
        CHECK.due("cost(0), late by 30", x.cost(0), 120);
        CHECK.due("late(0, 5), in place of 30", x.late(0, 5), 30);
        CHECK.due("cost(0), late by 5", x.cost(0), 270);
        CHECK.due("late(0, 0)", x.late(0, 0), 5);
        FourTenGates six = Check.laid("t10,2;t10,2;t10,2;t10,2;t10,2;t10,2;c1;");
        for (int i = 0; i < 6; i++) {
            CHECK.due("late(" + i + ", 30) of six", six.late(i, 30), 0);
            CHECK.due("train(" + i + ", 2) of six", six.train(i, 2), 30);
            CHECK.due("stopped(0, " + i + ") of six", six.stopped(0, i), 120);
        }
        CHECK.due("cost(0) of six", six.cost(0), 6 * 120);
        CHECK.due("cost(0), late no more", x.cost(0), 300);
        int[][] wrong = {{-1, 0}, {1, 0}, {0, -1}, {0, 31}, {Integer.MAX_VALUE, 5}, {0, Integer.MIN_VALUE}};
        for (int[] w : wrong) {
            CHECK.due("late(" + w[0] + ", " + w[1] + ")", x.late(w[0], w[1]), BAD);
        }
        CHECK.due("count(4)", x.count(4), 3);
    }

    private static void shut() {
        FourTenGates x = Check.laid("t10,2;g1;c1;");
        CHECK.due("shut(9, 11)", x.shut(9, 11), 1);
        CHECK.due("passed(0, 0)", x.passed(0, 0), 60);
        CHECK.due("shut(0, 60)", x.shut(0, 60), 2);
        CHECK.due("gates(0, 1)", x.gates(0, 1), 2);
        int[][] wrong = {{5, 5}, {6, 5}, {-1, 5}, {0, 61}, {60, 60}, {60, 61}, {Integer.MIN_VALUE, Integer.MAX_VALUE}};
        for (int[] w : wrong) {
            CHECK.due("shut(" + w[0] + ", " + w[1] + ")", x.shut(w[0], w[1]), BAD);
        }
        CHECK.due("shut(59, 60)", x.shut(59, 60), 3);
        CHECK.due("shut(1, 2)", x.shut(1, 2), 4);
        CHECK.due("shut(1, 2) again", x.shut(1, 2), 5);
        CHECK.due("shut(3, 4)", x.shut(3, 4), 6);
        CHECK.due("shut(3, 4), the seventh", x.shut(3, 4), FULL);
        CHECK.due("shut(4, 3), the seventh", x.shut(4, 3), BAD);
        CHECK.due("count(2)", x.count(2), 6);
        CHECK.due("count(4)", x.count(4), 6);
    }

    private static void leave() {
        FourTenGates x = Check.laid("t0,2;g1;k10,11;k20,21;k30,31;");
        CHECK.due("leave(3)", x.leave(3), BAD);
        CHECK.due("leave(-1)", x.leave(-1), BAD);
        CHECK.due("leave(max)", x.leave(Integer.MAX_VALUE), BAD);
        CHECK.due("leave(1)", x.leave(1), 2);
        CHECK.due("gates(0, 62)", x.gates(0, 62), 2);
        CHECK.due("gates(0, 122)", x.gates(0, 122), 0);
        CHECK.due("leave(2), one came down", x.leave(2), BAD);
        CHECK.due("leave(1), that was 2", x.leave(1), 1);
        CHECK.due("gates(0, 182)", x.gates(0, 182), 0);
        CHECK.due("leave(0)", x.leave(0), 0);
        CHECK.due("leave(0), none", x.leave(0), BAD);
        FourTenGates y = Check.laid("t0,2;g1;k10,11;k20,25;k30,33;");
        y.leave(0);
        int[][] gates = {{62, 0}, {119, 0}, {120, 1}, {149, 2}, {150, 1}, {151, 0}, {180, 1}, {197, 2}, {198, 1}, {199, 0}};
        for (int[] g : gates) {
            CHECK.due("gates(0, " + g[0] + "), those behind came one down", y.gates(0, g[0]), g[1]);
        }
    }

    private static void undo() {
        FourTenGates x = Check.laid("t0,2;g1;k10,11;k20,21;k30,31;");
        CHECK.due("undo() of nothing", x.undo(), NO);
        x.leave(0);
        x.late(0, 4);
        x.shut(40, 41);
        CHECK.due("undo() of shut", x.undo(), 2);
        CHECK.due("count(2)", x.count(2), 2);
        CHECK.due("undo() of late", x.undo(), 1);
        CHECK.due("train(0, 2)", x.train(0, 2), 0);
        CHECK.due("gates(0, 62) ahead", x.gates(0, 62), 0);
        CHECK.due("undo() of leave", x.undo(), 0);
        CHECK.due("gates(0, 62) behind", x.gates(0, 62), 2);
        // back in its old place, ahead of the others
        CHECK.due("leave(0)", x.leave(0), 2);
        CHECK.due("gates(0, 62) of the first one", x.gates(0, 62), 0);
        CHECK.due("gates(0, 122) of the second one", x.gates(0, 122), 2);
        CHECK.due("undo()", x.undo(), 0);
        CHECK.due("undo() of no more", x.undo(), NO);
    }

    private static void undoIsEightDeep() {
        FourTenGates x = Check.laid("t0,2;");
        for (int minutes = 1; minutes <= 11; minutes++) {
            CHECK.due("late(0, " + minutes + ")", x.late(0, minutes), minutes - 1);
            CHECK.due("count(4)", x.count(4), Math.min(minutes, 8));
        }
        for (int left = 7; left >= 0; left--) {
            CHECK.due("undo()", x.undo(), left);
            CHECK.due("train(0, 2)", x.train(0, 2), left + 3);
        }
        CHECK.due("undo(), the ninth", x.undo(), NO);
        CHECK.due("train(0, 2)", x.train(0, 2), 3);
        // such by which nothing becomes another count as well
        CHECK.due("late(0, 3)", x.late(0, 3), 3);
        CHECK.due("count(4)", x.count(4), 1);
        CHECK.due("undo()", x.undo(), 0);
        CHECK.due("train(0, 2)", x.train(0, 2), 3);
    }

    private static void refusedCallsChangeNothing() {
        FourTenGates x = Check.laid("t0,2;k1,2;k1,2;k1,2;k1,2;k1,2;k1,2;");
        x.late(0, 31);
        x.late(1, 1);
        x.shut(7, 7);
        x.shut(7, 8);
        x.leave(6);
        CHECK.due("count(2)", x.count(2), 6);
        CHECK.due("count(4)", x.count(4), 0);
        CHECK.due("train(0, 2)", x.train(0, 2), 0);
    }

    private static void keepAndBack() {
        FourTenGates x = Check.laid("t0,2;t9,0;k1,2;");
        CHECK.due("back() of none", x.back(), NO);
        x.late(1, 3);
        CHECK.due("keep()", x.keep(), 1);
        x.late(1, 9);
        x.shut(5, 6);
        CHECK.due("keep()", x.keep(), 2);
        CHECK.due("keep(), the third", x.keep(), FULL);
        CHECK.due("count(4) behind keep()", x.count(4), 3);
        x.leave(0);
        x.leave(0);
        x.late(0, 1);
        x.seen(5, 1);
        int there = x.cost(1);
        CHECK.due("back()", x.back(), 1);
        CHECK.due("train(1, 2)", x.train(1, 2), 9);
        CHECK.due("train(0, 2)", x.train(0, 2), 0);
        CHECK.due("count(2)", x.count(2), 2);
        CHECK.due("count(3), what was seen stays", x.count(3), 1);
        CHECK.due("count(4)", x.count(4), 0);
        CHECK.due("undo() behind back()", x.undo(), NO);
        CHECK.due("cost(1) is another", x.cost(1) == there ? 1 : 0, 0);
        x.late(0, 2);
        CHECK.due("back() again", x.back(), 0);
        CHECK.due("train(1, 2)", x.train(1, 2), 3);
        CHECK.due("train(0, 2)", x.train(0, 2), 0);
        CHECK.due("count(2)", x.count(2), 1);
        CHECK.due("gates(0, 11)", x.gates(0, 11), 2);
        CHECK.due("back(), none left", x.back(), NO);
        x.late(0, 2);
        CHECK.due("back(), none left", x.back(), NO);
        CHECK.due("count(4) behind NO", x.count(4), 1);
        CHECK.due("keep() behind", x.keep(), 1);
    }

    private static void count() {
        FourTenGates x = Check.laid("t1,0;t2,0;u1,1;k1,2;k2,3;k3,4;");
        x.late(0, 1);
        x.seen(0, 0);
        x.seen(0, 0);
        x.keep();
        int[] counts = {2, 1, 3, 2, 1, 1, 30};
        for (int what = 0; what < counts.length; what++) {
            CHECK.due("count(" + what + ")", x.count(what), counts[what]);
        }
        int[] wrong = {-1, 7, Integer.MIN_VALUE, Integer.MAX_VALUE};
        for (int what : wrong) {
            CHECK.due("count(" + what + ")", x.count(what), BAD);
        }
    }
}
