/** Promises 22 to 29: byNow, which, seen, forget, fits, bridge, mean, day. */
final class WhatWasTest {
    private static final Check CHECK = new Check("WhatWasTest");
    private static final int BAD = FourTenGates.BAD, FULL = FourTenGates.FULL, NONE = FourTenGates.NONE;

    public static void main(String[] args) {
        byNow();
        which();
        seenAndForget();
        fits();
        bridge();
        mean();
        day();
        CHECK.end();
    }

    private static void fraction(FourTenGates x, int m, int d, int above, int below) {
        CHECK.due("byNow(" + m + ", " + d + ", 0)", x.byNow(m, d, 0), above);
        CHECK.due("byNow(" + m + ", " + d + ", 1)", x.byNow(m, d, 1), below);
    }

    private static void byNow() {
        FourTenGates x = Check.laid("t0,0;o3,2;o7,4;o3,2;o9,0;o0,2;");
        fraction(x, 0, 3, 1, 2);
        fraction(x, 0, 7, 1, 2);
        fraction(x, 2, 7, 1, 2);
        fraction(x, 3, 7, 1, 1);
        fraction(x, 3, 3, 0, 1);
        fraction(x, 0, 0, 0, 1);
        fraction(x, 0, 1, 0, 1);
        fraction(x, 0, 9, 0, 1);
        fraction(x, 6, 9, 0, 1);
        fraction(x, 7, 7, NONE, NONE);
        fraction(x, 7, 9, NONE, NONE);
        fraction(x, 9, 0, NONE, NONE);
        fraction(Check.laid("t0,0;o1,6;o2,3;o8,1;"), 0, 1, 3, 5);
        fraction(Check.laid("t0,0;o1,6;o2,3;o8,1;"), 1, 2, 3, 4);
        fraction(Check.laid("t0,0;"), 0, 0, NONE, NONE);
        int[][] wrong = {{-1, 0, 0}, {10, 0, 0}, {0, -1, 0}, {0, 10, 0}, {0, 0, -1}, {0, 0, 2}, {Integer.MAX_VALUE, 0, 0}};
        for (int[] w : wrong) {
            CHECK.due("byNow(" + w[0] + ", " + w[1] + ", " + w[2] + ")", x.byNow(w[0], w[1], w[2]), BAD);
        }
        CHECK.due("byNow(9, 10, 0), BAD ahead of NONE", x.byNow(9, 10, 0), BAD);
    }

    private static void which() {
        FourTenGates x = Check.laid("t0,0;t11,0;t6,1;t59,2;t31,0;t26,1;");
        CHECK.due("which(0)", x.which(0), 1 | 2 | 4);
        CHECK.due("which(20)", x.which(20), 16 | 32);
        CHECK.due("which(19)", x.which(19), 0);
        CHECK.due("which(21)", x.which(21), 0);
        x.late(0, 12);
        CHECK.due("which(0), one late", x.which(0), 2 | 4);
        CHECK.due("which(1), one late", x.which(1), 1);
        FourTenGates y = Check.laid("t59,0;t59,1;");
        y.late(0, 11);
        y.late(1, 6);
        CHECK.due("which(59)", y.which(59), 3);
        y.late(0, 12);
        CHECK.due("which(59), one behind the hour", y.which(59), 2);
        int[] wrong = {-1, 60, Integer.MIN_VALUE, Integer.MAX_VALUE};
        for (int m : wrong) {
            CHECK.due("which(" + m + ")", x.which(m), BAD);
        }
    }

    private static void seenAndForget() {
        FourTenGates x = new FourTenGates();
        int[][] wrong = {{-1, 0}, {360, 0}, {0, -1}, {0, 3}, {Integer.MIN_VALUE, 0}, {0, Integer.MAX_VALUE}};
        for (int[] w : wrong) {
            CHECK.due("seen(" + w[0] + ", " + w[1] + ")", x.seen(w[0], w[1]), BAD);
        }
        CHECK.due("forget(), none", x.forget(), 0);
        for (int k = 1; k <= 8; k++) {
            CHECK.due("seen", x.seen(k == 1 ? 0 : 359, k % 3), k);
        }
        CHECK.due("seen, the ninth", x.seen(0, 0), FULL);
        CHECK.due("seen, the ninth, wrong", x.seen(360, 0), BAD);
        CHECK.due("count(3)", x.count(3), 8);
        CHECK.due("count(4), none to be undone", x.count(4), 0);
        CHECK.due("forget()", x.forget(), 8);
        CHECK.due("count(3)", x.count(3), 0);
        CHECK.due("forget() again", x.forget(), 0);
        CHECK.due("seen behind", x.seen(0, 0), 1);
    }

    private static void fits() {
        // planned from 96 to 120; the bell rings at 54; by sight from 91 on
        FourTenGates x = Check.laid("t15,1;g2;k16,20;");
        CHECK.due("fits(), nothing seen", x.fits(), 15);
        x.seen(54, 1);
        CHECK.due("fits(), moving at 54", x.fits(), 2 | 8);
        x.seen(90, 2);
        CHECK.due("fits(), shut at 90", x.fits(), 2 | 8);
        x.seen(90, 0);
        CHECK.due("fits(), open as well", x.fits(), 0);
        x.forget();
        x.seen(90, 0);
        CHECK.due("fits(), open at 90", x.fits(), 1 | 4);
        x.seen(91, 1);
        CHECK.due("fits(), moving at 91", x.fits(), 4);
        x.late(0, 10);
        CHECK.due("fits(), the train is late", x.fits(), 0);
        x.undo();
        CHECK.due("fits(), undone", x.fits(), 4);
        x.forget();
        x.seen(0, 0);
        CHECK.due("fits(), open at 0", x.fits(), 15);
        x.seen(98, 2);
        CHECK.due("fits(), shut at 98", x.fits(), 1);
    }

    private static void bridge() {
        FourTenGates one = Check.laid("t0,2;u0,3;u0,3;c0;");
        CHECK.due("a cost of 1", one.cost(0), 1);
        CHECK.due("bridge(0, 1)", one.bridge(0, 1), 100);
        CHECK.due("bridge(0, 9)", one.bridge(0, 9), 900);
        CHECK.due("bridge(0, 10)", one.bridge(0, 10), NONE);
        CHECK.due("bridge(0, 99)", one.bridge(0, 99), NONE);
        FourTenGates ten = Check.laid("t58,2;c1;");
        CHECK.due("a cost of 12", ten.cost(0), 12);
        CHECK.due("bridge(0, 3)", ten.bridge(0, 3), 25);
        CHECK.due("bridge(0, 99)", ten.bridge(0, 99), 825);
        CHECK.due("bridge(0, 1)", ten.bridge(0, 1), 9);
        FourTenGates dear = Check.laid("t0,2;c99;");
        CHECK.due("bridge(0, 99), on the first day", dear.bridge(0, 99), 1);
        CHECK.due("bridge(0, 1), no cost", Check.laid("t0,2;c0;").bridge(0, 1), NONE);
        int[][] wrong = {{-1, 1}, {4, 1}, {0, 0}, {0, 100}, {0, -1}, {Integer.MAX_VALUE, 1}, {0, Integer.MIN_VALUE}};
        for (int[] w : wrong) {
            CHECK.due("bridge(" + w[0] + ", " + w[1] + ")", one.bridge(w[0], w[1]), BAD);
        }
        CHECK.due("bridge(0, 0), BAD ahead of NONE", Check.laid("t0,2;c0;").bridge(0, 0), BAD);
    }

    private static void mean() {
        FourTenGates x = Check.laid("t0,2;t50,2;c1;o0,3;o1,7;");
        CHECK.due("mean(0, 0, 0)", x.mean(0, 0, 0), (3 * 420 + 7 * 414) / 2);
        CHECK.due("mean(0, 0, 1)", x.mean(0, 0, 1), 5);
        x.late(0, 20);
        CHECK.due("mean(0, 0, 0), in place of what it is", x.mean(0, 0, 0), 2079);
        CHECK.due("train(0, 2), nothing changed", x.train(0, 2), 20);
        x.late(1, 1);
        CHECK.due("mean(0, 0, 0), another one later", x.mean(0, 0, 0), (3 * 414 + 7 * 408) / 2);
        FourTenGates y = Check.laid("t0,2;c1;o0,5;o1,5;");
        CHECK.due("mean(0, 0, 0), whole", y.mean(0, 0, 0), 357);
        CHECK.due("mean(0, 0, 1), whole", y.mean(0, 0, 1), 1);
        FourTenGates rare = Check.laid("t0,2;c1;o0,9;o5,1;");
        CHECK.due("mean(0, 0, 0), one of ten", rare.mean(0, 0, 0), (9 * 360 + 330) / 10);
        FourTenGates tenths = Check.laid("t0,2;u0,3;u0,3;c0;w3,3;o0,10;");
        CHECK.due("mean(0, 0, 0) of one lateness", tenths.mean(0, 0, 0), 3);
        FourTenGates z = Check.laid("t0,2;c0;o9,10;");
        CHECK.due("mean(0, 0, 0), nothing", z.mean(0, 0, 0), 0);
        CHECK.due("mean(0, 0, 1), nothing", z.mean(0, 0, 1), 1);
        CHECK.due("mean(0, 0, 0), no odds", Check.laid("t0,2;").mean(0, 0, 0), NONE);
        int[][] wrong = {{-1, 0, 0}, {4, 0, 0}, {0, -1, 0}, {0, 2, 0}, {0, 0, -1}, {0, 0, 2}, {0, Integer.MAX_VALUE, 0}};
        for (int[] w : wrong) {
            CHECK.due("mean(" + w[0] + ", " + w[1] + ", " + w[2] + ")", x.mean(w[0], w[1], w[2]), BAD);
        }
        CHECK.due("mean(0, 1, 0), BAD ahead of NONE", Check.laid("t0,2;").mean(0, 1, 0), BAD);
    }

    private static void day() {
        // z 0: train 0 by 1 modulo 6, train 1 by 6152 times 6152 (41487 modulo 65521) modulo 6
        FourTenGates x = Check.laid("t0,2;t0,2;c2;");
        x.late(0, 30);
        CHECK.due("day(0, 0, 0)", x.day(0, 0, 0), 2 * (354 + 342));
        CHECK.due("day(0, 0, 1)", x.day(0, 0, 1), 354 + 342);
        CHECK.due("train(0, 2), nothing changed", x.train(0, 2), 30);
        CHECK.due("cost(0), nothing changed", x.cost(0), 2 * (180 + 360));
        CHECK.due("count(4), nothing changed", x.count(4), 1);
        // 79182082 squared is 51303 modulo 65521
        FourTenGates y = Check.laid("t0,2;c1;");
        CHECK.due("day(0, 9999, 1)", y.day(0, 9999, 1), 342);
        CHECK.due("day(2, 9999, 1)", y.day(2, 9999, 1), 5);
        y.shut(2, 4);
        CHECK.due("day(0, 9999, 1), with a closing", y.day(0, 9999, 1), 0);
        y.leave(0);
        CHECK.due("day(0, 9999, 1), left out", y.day(0, 9999, 1), 342);
        int[][] wrong = {{-1, 0, 0}, {4, 0, 0}, {0, -1, 0}, {0, 10000, 0}, {0, 0, -1}, {0, 0, 2}, {0, Integer.MAX_VALUE, 0}};
        for (int[] w : wrong) {
            CHECK.due("day(" + w[0] + ", " + w[1] + ", " + w[2] + ")", x.day(w[0], w[1], w[2]), BAD);
        }
    }
}
