/** Promises 8 to 13: gates, passed, stopped, crossed, waited, cost; the hours are worked out by hand. */
final class HourTest {
    private static final Check CHECK = new Check("HourTest");
    private static final int BAD = FourTenGates.BAD, NONE = FourTenGates.NONE;

    public static void main(String[] args) {
        flockHoldsGatesOpen();
        bicycleCrossesWhileGatesMove();
        threeTrainsBySight();
        stoppedTrainHoldsGatesShut();
        heldByTheBook();
        goodsAreNeverAwaited();
        trainBehindTheHour();
        planFromItsBeginningToItsEnd();
        patience();
        waitingAtTheEnd();
        doctorsFirst();
        wrongNumbers();
        CHECK.end();
    }

    private static void gates(FourTenGates x, int rule, int[][] due) {
        for (int[] d : due) {
            CHECK.due("gates(" + rule + ", " + d[0] + ")", x.gates(rule, d[0]), d[1]);
        }
    }

    private static void flockHoldsGatesOpen() {
        FourTenGates x = Check.laid("t10,2;u9,1;u10,0;g2;c1;k10,11;");
        gates(x, 0, new int[][] {{0, 0}, {60, 0}, {65, 0}, {84, 0}, {359, 0}});
        CHECK.due("flock: crossed(0, 0)", x.crossed(0, 0), 54);
        CHECK.due("flock: crossed(0, 1)", x.crossed(0, 1), 84);
        CHECK.due("flock: waited(0, 0)", x.waited(0, 0), 0);
        CHECK.due("flock: waited(0, 1)", x.waited(0, 1), 24);
        CHECK.due("flock: passed(0, 0)", x.passed(0, 0), NONE);
        CHECK.due("flock: stopped(0, 0)", x.stopped(0, 0), 300);
        CHECK.due("flock: cost(0)", x.cost(0), 324);
        // by sight the cart goes on the road only behind the train: the gates move first, at 84
        gates(x, 2, new int[][] {{83, 0}, {84, 1}, {85, 1}, {86, 2}, {88, 2}, {89, 1}, {90, 1}, {91, 0}});
        CHECK.due("flock: passed(2, 0)", x.passed(2, 0), 86);
        CHECK.due("flock: stopped(2, 0)", x.stopped(2, 0), 26);
        CHECK.due("flock: crossed(2, 1)", x.crossed(2, 1), 91);
        CHECK.due("flock: cost(2)", x.cost(2), 26 + 31);
    }

    private static void bicycleCrossesWhileGatesMove() {
        FourTenGates x = Check.laid("t5,2;u2,0;u2,3;u2,2;u4,3;g9;c0;k2,3;");
        // shut at 21, no longer wanted, so they move again in that beat
        gates(x, 0, new int[][] {{11, 0}, {12, 1}, {20, 1}, {21, 1}, {29, 1}, {30, 0}, {359, 0}});
        CHECK.due("bicycle: crossed(0, 1)", x.crossed(0, 1), 12);
        CHECK.due("bicycle opening: crossed(0, 3)", x.crossed(0, 3), 24);
        CHECK.due("doctor: crossed(0, 2)", x.crossed(0, 2), 30);
        CHECK.due("cart: crossed(0, 0)", x.crossed(0, 0), 31);
        CHECK.due("doctor: waited(0, 2)", x.waited(0, 2), 18);
        CHECK.due("cart: waited(0, 0)", x.waited(0, 0), 19);
        CHECK.due("bicycle: cost(0)", x.cost(0), 18 * 5 + 19);
        CHECK.due("bicycle: stopped(0, 0)", x.stopped(0, 0), 330);
        FourTenGates y = Check.laid("t5,2;u3,3;u3,3;u3,0;g6;c0;k2,60;");
        CHECK.due("shut: crossed(0, 0)", y.crossed(0, 0), NONE);
        CHECK.due("shut: waited(0, 0)", y.waited(0, 0), 60);
        CHECK.due("shut: passed(0, 0)", y.passed(0, 0), 30);
    }

    private static void threeTrainsBySight() {
        FourTenGates x = Check.laid("t1,0;t1,1;t1,2;g1;c1;");
        int[] passed = {8, 11, 14};
        int[] stopped = {2, 5, 8};
        for (int i = 0; i < 3; i++) {
            CHECK.due("sight: passed(2, " + i + ")", x.passed(2, i), passed[i]);
            CHECK.due("sight: stopped(2, " + i + ")", x.stopped(2, i), stopped[i]);
        }
        CHECK.due("sight: cost(2)", x.cost(2), 15);
        gates(x, 2, new int[][] {{5, 0}, {6, 0}, {7, 1}, {8, 2}, {16, 2}, {17, 1}, {18, 0}});
        CHECK.due("plan of none: cost(0)", x.cost(0), 3 * 354);
    }

    private static void stoppedTrainHoldsGatesShut() {
        FourTenGates x = Check.laid("t15,1;t15,2;g3;c2;");
        gates(x, 1, new int[][] {{53, 0}, {54, 1}, {56, 1}, {57, 2}, {92, 2}, {93, 2}, {95, 2}, {96, 1}, {98, 1}, {99, 0}});
        CHECK.due("bell: passed(1, 0)", x.passed(1, 0), 90);
        CHECK.due("bell: passed(1, 1)", x.passed(1, 1), 93);
        CHECK.due("bell: stopped(1, 0)", x.stopped(1, 0), 0);
        CHECK.due("bell: stopped(1, 1)", x.stopped(1, 1), 3);
        CHECK.due("bell: cost(1)", x.cost(1), 6);
    }

    private static void heldByTheBook() {
        FourTenGates x = Check.laid("t20,1;t50,0;");
        x.late(0, 10);
        gates(x, 3, new int[][] {{95, 0}, {96, 1}, {100, 2}, {120, 2}, {121, 1}, {125, 0}, {143, 0}, {144, 1}, {148, 2},
            {182, 2}, {183, 1}, {186, 1}, {187, 0}, {233, 0}, {234, 1}, {302, 2}, {303, 1}, {307, 0}});
        gates(x, 1, new int[][] {{96, 0}, {143, 0}, {144, 1}, {148, 2}, {183, 1}});
        CHECK.due("held: passed(3, 0)", x.passed(3, 0), 180);
        CHECK.due("held: passed(3, 1)", x.passed(3, 1), 300);
        CHECK.due("held: cost(3)", x.cost(3), 0);
    }

    private static void goodsAreNeverAwaited() {
        FourTenGates x = Check.laid("t20,2;c1;");
        for (int rule = 2; rule < 4; rule++) {
            gates(x, rule, new int[][] {{96, 0}, {120, 0}, {121, 1}, {125, 2}, {127, 2}, {128, 1}, {132, 0}});
            CHECK.due("goods: passed(" + rule + ", 0)", x.passed(rule, 0), 125);
            CHECK.due("goods: cost(" + rule + ")", x.cost(rule), 5);
        }
        CHECK.due("goods: passed(1, 0)", x.passed(1, 0), NONE);
        CHECK.due("goods: cost(1)", x.cost(1), 240);
    }

    private static void trainBehindTheHour() {
        FourTenGates x = Check.laid("t50,0;t59,2;c1;");
        x.late(0, 15);
        x.late(1, 1);
        gates(x, 1, new int[][] {{323, 0}, {324, 1}, {327, 1}, {328, 2}, {359, 2}});
        for (int rule = 0; rule < 4; rule++) {
            CHECK.due("behind: passed(" + rule + ", 0)", x.passed(rule, 0), NONE);
            CHECK.due("behind: stopped(" + rule + ", 0)", x.stopped(rule, 0), 0);
            CHECK.due("behind: cost(" + rule + ")", x.cost(rule), 0);
        }
        x.late(0, 30);
        gates(x, 1, new int[][] {{324, 0}, {359, 0}});
        // the book still tells minute 50
        gates(x, 3, new int[][] {{275, 0}, {276, 1}, {280, 2}, {300, 2}, {301, 1}, {305, 0}, {359, 0}});
    }

    private static void planFromItsBeginningToItsEnd() {
        FourTenGates x = Check.laid("t0,2;g1;c1;k0,1;k1,2;k58,60;");
        gates(x, 0, new int[][] {{0, 1}, {1, 2}, {6, 2}, {11, 2}, {12, 1}, {13, 0}, {347, 0}, {348, 1}, {349, 2}, {359, 2}});
        CHECK.due("plan: passed(0, 0)", x.passed(0, 0), 1);
        CHECK.due("plan: cost(0)", x.cost(0), 1);
        // a train that is passing, or waits, keeps gates shut that the plan would open
        FourTenGates y = Check.laid("t2,2;t2,2;g1;c1;k1,2;");
        gates(y, 0, new int[][] {{11, 2}, {12, 1}, {13, 0}});
        CHECK.due("plan: passed(0, 0) too late by a beat", y.passed(0, 0), NONE);
        FourTenGates z = Check.laid("t2,2;t2,2;g5;c1;k1,3;");
        gates(z, 0, new int[][] {{17, 2}, {18, 1}});
        CHECK.due("plan: passed(0, 1)", z.passed(0, 1), 15);
        FourTenGates v = Check.laid("t2,2;t2,2;t2,2;g5;c1;k1,3;");
        gates(v, 0, new int[][] {{17, 2}, {18, 2}, {20, 2}, {21, 1}, {26, 0}});
        CHECK.due("plan: passed(0, 2)", v.passed(0, 2), 18);
    }

    private static void patience() {
        FourTenGates x = Check.laid("t0,1;u0,0;u0,0;g1;c0;w0,9;a1,7;");
        CHECK.due("patience 1: crossed(0, 0)", x.crossed(0, 0), 0);
        CHECK.due("patience 1: crossed(0, 1)", x.crossed(0, 1), NONE);
        CHECK.due("patience 1: waited(0, 1)", x.waited(0, 1), 1);
        CHECK.due("patience 1: cost(0)", x.cost(0), 16);
        FourTenGates y = Check.laid("t0,1;u0,0;u0,0;g1;c0;w0,9;a2,7;");
        CHECK.due("patience 2: crossed(0, 1)", y.crossed(0, 1), NONE);
        CHECK.due("patience 2: cost(0)", y.cost(0), 25);
        FourTenGates z = Check.laid("t0,1;u0,0;u0,0;g1;c0;w0,9;a3,7;");
        CHECK.due("patience 3: crossed(0, 1)", z.crossed(0, 1), 2);
        CHECK.due("patience 3: cost(0)", z.cost(0), 18);
    }

    private static void waitingAtTheEnd() {
        FourTenGates x = Check.laid("t0,2;u59,0;c0;k0,60;");
        CHECK.due("end: crossed(0, 0)", x.crossed(0, 0), NONE);
        CHECK.due("end: waited(0, 0)", x.waited(0, 0), 6);
        CHECK.due("end: cost(0)", x.cost(0), 6);
        CHECK.due("end: cost(1)", x.cost(1), 0);
        // who waits at the end of one hour does not wait at the beginning of the next
        x.leave(0);
        CHECK.due("end: crossed(0, 0), left out", x.crossed(0, 0), 354);
        CHECK.due("end: cost(0), left out", x.cost(0), 0);
    }

    private static void doctorsFirst() {
        FourTenGates x = Check.laid("t0,2;u0,1;u1,0;u1,3;u2,2;u3,2;c0;");
        int[] crossed = {0, 32, 34, 30, 31};
        int[] waited = {0, 26, 28, 18, 13};
        for (int i = 0; i < crossed.length; i++) {
            CHECK.due("doctors: crossed(0, " + i + ")", x.crossed(0, i), crossed[i]);
            CHECK.due("doctors: waited(0, " + i + ")", x.waited(0, i), waited[i]);
        }
        CHECK.due("doctors: cost(0)", x.cost(0), 26 + 28 + 5 * (18 + 13));
    }

    private static void wrongNumbers() {
        FourTenGates x = new FourTenGates();
        int[] rules = {-1, 4, 5, Integer.MIN_VALUE, Integer.MAX_VALUE};
        for (int rule : rules) {
            CHECK.due("gates(" + rule + ", 0)", x.gates(rule, 0), BAD);
            CHECK.due("passed(" + rule + ", 0)", x.passed(rule, 0), BAD);
            CHECK.due("stopped(" + rule + ", 0)", x.stopped(rule, 0), BAD);
            CHECK.due("crossed(" + rule + ", 0)", x.crossed(rule, 0), BAD);
            CHECK.due("waited(" + rule + ", 0)", x.waited(rule, 0), BAD);
            CHECK.due("cost(" + rule + ")", x.cost(rule), BAD);
        }
        int[] beats = {-1, 360, Integer.MIN_VALUE, Integer.MAX_VALUE};
        for (int beat : beats) {
            CHECK.due("gates(0, " + beat + ")", x.gates(0, beat), BAD);
        }
        int[] others = {-1, 4, 6, 8, Integer.MAX_VALUE};
        for (int i : others) {
            CHECK.due("passed(0, " + i + ")", x.passed(0, i), BAD);
            CHECK.due("stopped(0, " + i + ")", x.stopped(0, i), BAD);
        }
        int[] users = {-1, 6, 8, Integer.MAX_VALUE};
        for (int i : users) {
            CHECK.due("crossed(0, " + i + ")", x.crossed(0, i), BAD);
            CHECK.due("waited(0, " + i + ")", x.waited(0, i), BAD);
        }
    }
}
