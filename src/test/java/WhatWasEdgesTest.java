/** The edges of BY NOW, WHICH, SEEN, FITS, BRIDGE, MEAN and A DAY: promises 22 to 29. */
final class WhatWasEdgesTest {
    private static final Check CHECK = new Check("WhatWasEdgesTest");
    private static final int BAD = FourTenGates.BAD, FULL = FourTenGates.FULL, NONE = FourTenGates.NONE;
    private static final int[] NEITHER = {-1, 2, Integer.MIN_VALUE, Integer.MAX_VALUE};
    private static final int[] NO_RULES = {-1, 4, Integer.MIN_VALUE, Integer.MAX_VALUE};

    public static void main(String[] args) {
        byNowOnlyThoseMoreThanM();
        byNowInLowestTerms();
        byNowNone();
        byNowNumbers();
        whichMinute();
        whichAsLateAsTheyAre();
        seenEightAtMost();
        seenNumbers();
        forgetOfNoneAndOfEight();
        fitsAtTheEndOfABeat();
        fitsAsThingsStand();
        bridgeFewestDays();
        bridgeUpTo999();
        bridgeNumbers();
        meanInLowestTerms();
        meanInPlaceOfWhatItIs();
        meanNone();
        meanNumbers();
        dayByDraws();
        dayChangesNothing();
        dayNumbers();
        CHECK.end();
    }

    private static void byNow(FourTenGates x, int m, int d, int above, int below) {
        CHECK.due("byNow(" + m + ", " + d + ", 0)", x.byNow(m, d, 0), above);
        CHECK.due("byNow(" + m + ", " + d + ", 1)", x.byNow(m, d, 1), below);
    }

    private static void byNowOnlyThoseMoreThanM() {
        CHECK.about("22: D 0 to 9; only those more than m still can be");
        FourTenGates x = Check.laid("t0,0;o0,1;o1,2;o5,3;o8,3;o9,1;");
        int[] tenths = {1, 2, 0, 0, 0, 3, 0, 0, 3, 1};
        for (int m = 0; m <= 9; m++) {
            int still = 0;
            for (int d = m + 1; d <= 9; d++) {
                still += tenths[d];
            }
            for (int d = 0; d <= 9; d++) {
                int such = d > m ? tenths[d] : 0;
                int above = x.byNow(m, d, 0);
                int below = x.byNow(m, d, 1);
                if (still == 0) {
                    byNow(x, m, d, NONE, NONE);
                } else {
                    CHECK.due("byNow(" + m + ", " + d + "), crosswise", above * still, such * below);
                    CHECK.due("byNow(" + m + ", " + d + "), below is above 0", below > 0 ? 1 : 0, 1);
                }
            }
        }
        byNow(x, 0, 0, 0, 1);
        byNow(x, 0, 1, 2, 9);
        byNow(x, 8, 9, 1, 1);
        byNow(x, 8, 8, 0, 1);
        byNow(x, 9, 9, NONE, NONE);
    }

    private static void byNowInLowestTerms() {
        CHECK.about("22: in lowest terms");
        FourTenGates x = Check.laid("t0,0;o1,2;o2,6;o3,2;");
        byNow(x, 0, 1, 1, 5);
        byNow(x, 0, 2, 3, 5);
        byNow(x, 1, 2, 3, 4);
        byNow(x, 1, 3, 1, 4);
        byNow(x, 2, 3, 1, 1);
        byNow(x, 0, 4, 0, 1);
        byNow(Check.laid("t0,0;o1,1;o2,9;"), 0, 2, 9, 10);
        byNow(Check.laid("t0,0;o1,5;o2,5;"), 0, 2, 1, 2);
        byNow(Check.laid("t0,0;o9,10;"), 0, 9, 1, 1);
        byNow(Check.laid("t0,0;o0,1;o1,3;o2,6;"), 0, 2, 2, 3);
        byNow(Check.laid("t0,0;o0,1;o1,3;o2,6;"), 0, 1, 1, 3);
        // the same D told twice is one D
        byNow(Check.laid("t0,0;o4,2;o4,3;o6,5;"), 0, 4, 1, 2);
    }

    private static void byNowNone() {
        CHECK.about("22: none (there are none, or none more)");
        byNow(Check.laid("t0,0;"), 0, 5, NONE, NONE);
        byNow(Check.laid("t0,0;o0,10;"), 0, 5, NONE, NONE);
        byNow(Check.laid("t0,0;o5,10;"), 4, 5, 1, 1);
        byNow(Check.laid("t0,0;o5,10;"), 5, 5, NONE, NONE);
        // of those told with 0 of ten there is none more
        byNow(Check.laid("t0,0;o5,10;o6,0;"), 5, 6, NONE, NONE);
        Twins.changesNothing(CHECK, "byNow(5, 5, 0)", y -> y.late(0, 5), y -> y.byNow(5, 5, 0), NONE);
        // how late a train is made is no matter of it
        FourTenGates x = new FourTenGates();
        x.late(0, 9);
        byNow(x, 0, 2, 3, 5);
    }

    private static void byNowNumbers() {
        CHECK.about("22: m (0 to 9), D 0 to 9, part 0, 1; BAD ahead of NONE");
        FourTenGates x = Check.laid("t0,0;o9,10;");
        FourTenGates none = Check.laid("t0,0;");
        for (int n = -2; n <= 11; n++) {
            boolean right = n >= 0 && n <= 9;
            CHECK.due("byNow(" + n + ", 9, 1)", x.byNow(n, 9, 1), right ? n < 9 ? 1 : NONE : BAD);
            CHECK.due("byNow(0, " + n + ", 1)", x.byNow(0, n, 1), right ? 1 : BAD);
            CHECK.due("byNow(" + n + ", 0, 0), no odds", none.byNow(n, 0, 0), right ? NONE : BAD);
            CHECK.due("byNow(0, " + n + ", 0), no odds", none.byNow(0, n, 0), right ? NONE : BAD);
        }
        for (int part : NEITHER) {
            CHECK.due("byNow(0, 9, " + part + ")", x.byNow(0, 9, part), BAD);
            CHECK.due("byNow(9, 9, " + part + ")", x.byNow(9, 9, part), BAD);
            CHECK.due("byNow(0, 0, " + part + "), no odds", none.byNow(0, 0, part), BAD);
        }
        int[][] wrong = {{-1, 0, 0}, {10, 0, 0}, {0, -1, 0}, {0, 10, 0}, {0, 0, -1}, {0, 0, 2},
            {Integer.MIN_VALUE, 0, 0}, {Integer.MAX_VALUE, 0, 0}, {0, Integer.MIN_VALUE, 0}, {0, Integer.MAX_VALUE, 0}};
        for (int[] w : wrong) {
            Twins.changesNothing(CHECK, "byNow(" + w[0] + ", " + w[1] + ", " + w[2] + ")", y -> y.late(0, 5),
                y -> y.byNow(w[0], w[1], w[2]), BAD);
        }
    }

    private static void whichMinute() {
        CHECK.about("23: TRAINS (bits) whose BELL rings in minute m (0 to 59; its BEATS 6 m to 6 m and 5); BAD");
        for (int minute = 0; minute < 60; minute++) {
            FourTenGates x = Check.laid("t" + minute + ",0;t" + minute + ",1;t" + minute + ",2;");
            int slow = Math.max(0, minute - 11);
            int fast = Math.max(0, minute - 6);
            for (int m = 0; m < 60; m++) {
                CHECK.due("t" + minute + ": which(" + m + ")", x.which(m), (m == slow ? 1 : 0) + (m == fast ? 2 : 0));
            }
        }
        FourTenGates all = Check.laid("t0,0;t0,1;t1,0;t1,1;t2,0;t2,1;");
        CHECK.due("which(0) of six", all.which(0), 63);
        CHECK.due("which(0) of six GOODS", Check.laid("t0,2;".repeat(6)).which(0), 0);
        int[] wrong = {-1, 60, Integer.MIN_VALUE, Integer.MAX_VALUE};
        for (int m : wrong) {
            CHECK.due("which(" + m + ")", all.which(m), BAD);
            Twins.changesNothing(CHECK, "which(" + m + ")", y -> y.late(0, 5), y -> y.which(m), BAD);
        }
    }

    private static void whichAsLateAsTheyAre() {
        CHECK.about("23: as late as they are");
        FourTenGates x = Check.laid("t59,0;t59,1;t59,0;t11,0;");
        x.late(0, 11);
        x.late(1, 6);
        CHECK.due("which(59)", x.which(59), 3);
        CHECK.due("which(48)", x.which(48), 4);
        CHECK.due("which(0)", x.which(0), 8);
        x.late(0, 12);
        x.late(1, 7);
        CHECK.due("which(59), behind the hour", x.which(59), 0);
        x.late(3, 30);
        CHECK.due("which(0), late", x.which(0), 0);
        CHECK.due("which(30), late", x.which(30), 8);
    }

    private static void eightSeen(FourTenGates x) {
        for (int k = 0; k < 8; k++) {
            x.seen(40 + k, 2);
        }
    }

    private static void seenEightAtMost() {
        CHECK.about("24: SEEN (8 at most): how many; FULL; BAD ahead of FULL");
        FourTenGates x = new FourTenGates();
        for (int k = 1; k <= 8; k++) {
            CHECK.due("seen(0, 0)", x.seen(0, 0), k);
        }
        CHECK.due("seen(0, 0), the ninth", x.seen(0, 0), FULL);
        CHECK.due("seen(360, 0), the ninth", x.seen(360, 0), BAD);
        CHECK.due("seen(0, 3), the ninth", x.seen(0, 3), BAD);
        CHECK.due("count(3)", x.count(3), 8);
        CHECK.due("fits(), open at 0: no bell has rung", x.fits(), 5);
        Twins.changesNothing(CHECK, "seen(40, 0), the ninth", WhatWasEdgesTest::eightSeen, y -> y.seen(40, 0), FULL);
        Twins.changesNothing(CHECK, "seen(-1, 0), the ninth", WhatWasEdgesTest::eightSeen, y -> y.seen(-1, 0), BAD);
    }

    private static void seenNumbers() {
        CHECK.about("24: BEATS 0 to 359; OPEN (0), moving (1), SHUT (2); BAD");
        int[] beats = {-1, 0, 359, 360};
        for (int beat : beats) {
            for (int how = -1; how <= 3; how++) {
                boolean right = beat >= 0 && beat <= 359 && how >= 0 && how <= 2;
                CHECK.due("seen(" + beat + ", " + how + ")", new FourTenGates().seen(beat, how), right ? 1 : BAD);
            }
        }
        int[][] wrong = {{-1, 0}, {360, 0}, {0, -1}, {0, 3}, {Integer.MIN_VALUE, 0}, {Integer.MAX_VALUE, 0},
            {0, Integer.MIN_VALUE}, {0, Integer.MAX_VALUE}};
        for (int[] w : wrong) {
            Twins.changesNothing(CHECK, "seen(" + w[0] + ", " + w[1] + ")", y -> y.seen(40, 2), y -> y.seen(w[0], w[1]), BAD);
        }
    }

    private static void forgetOfNoneAndOfEight() {
        CHECK.about("25: nothing is SEEN: how many were");
        FourTenGates x = new FourTenGates();
        CHECK.due("forget() of none", x.forget(), 0);
        for (int many = 1; many <= 8; many++) {
            for (int k = 0; k < many; k++) {
                x.seen(0, 1);
            }
            CHECK.due("forget() of " + many, x.forget(), many);
            CHECK.due("count(3)", x.count(3), 0);
            CHECK.due("fits()", x.fits(), 15);
        }
        eightSeen(x);
        x.forget();
        CHECK.due("seen(0, 0) behind", x.seen(0, 0), 1);
        Twins.changesNothing(CHECK, "forget() of none", y -> y.late(0, 5), y -> y.forget(), 0);
    }

    private static int fitsBy(FourTenGates x, int beat, int how) {
        x.forget();
        x.seen(beat, how);
        return x.fits();
    }

    private static void fitsAtTheEndOfABeat() {
        CHECK.about("26: RULES (bits) by which all that was SEEN is so; how the gates are at the end of a BEAT");
        FourTenGates x = Check.laid("t15,1;g2;k16,20;");
        CHECK.due("fits() of nothing", x.fits(), 15);
        // plan: moving at 96, 97; bell and held: 54, 55; sight: 91, 92
        int[][] due = {{0, 0, 15}, {0, 1, 0}, {0, 2, 0}, {53, 0, 15}, {54, 1, 10}, {54, 0, 5}, {55, 1, 10}, {56, 2, 10}, {56, 1, 0},
            {90, 2, 10}, {90, 0, 5}, {91, 1, 4}, {92, 1, 4}, {93, 2, 4}, {93, 1, 10}, {93, 0, 1}, {359, 0, 15}, {359, 2, 0}};
        for (int[] d : due) {
            CHECK.due("fits() of seen(" + d[0] + ", " + d[1] + ")", fitsBy(x, d[0], d[1]), d[2]);
        }
        FourTenGates all = Check.laid("t15,1;g2;k16,20;");
        for (int beat = 86; beat < 93; beat++) {
            all.seen(beat, beat < 91 ? 0 : 1);
        }
        CHECK.due("fits() of seven", all.fits(), 4);
        all.seen(93, 1);
        CHECK.due("fits() of eight, the last one wrong", all.fits(), 0);
        all.forget();
        all.seen(0, 1);
        all.seen(0, 0);
        CHECK.due("fits() of two that fit none", all.fits(), 0);
        Twins.changesNothing(CHECK, "fits()", WhatWasEdgesTest::eightSeen, y -> y.fits(), 11);
    }

    private static void fitsAsThingsStand() {
        CHECK.about("26: as late as TRAINS are, by the CLOSINGS that there are");
        FourTenGates x = Check.laid("t15,1;g2;k16,20;");
        x.seen(54, 1);
        CHECK.due("fits()", x.fits(), 10);
        x.late(0, 1);
        CHECK.due("fits(), late", x.fits(), 0);
        x.shut(9, 10);
        CHECK.due("fits(), told", x.fits(), 1);
        x.undo();
        x.undo();
        CHECK.due("fits(), undone", x.fits(), 10);
    }

    private static void bridge(String text, int x, int days) {
        CHECK.due(text + " bridge(0, " + x + ")", Check.laid(text).bridge(0, x), days);
    }

    private static void bridgeFewestDays() {
        CHECK.about("27: the fewest days by which COST is 100 times x or more");
        // a cost of 300, of 294
        bridge("t59,2;c50;", 3, 1);
        bridge("t59,2;c50;", 4, 2);
        bridge("t59,2;c50;", 6, 2);
        bridge("t59,2;c50;", 7, 3);
        bridge("t59,2;c49;", 3, 2);
        bridge("t59,2;c50;", 99, 33);
        bridge("t59,2;c49;", 99, 34);
        bridge("t0,2;c99;", 99, 1);
    }

    private static void bridgeUpTo999() {
        CHECK.about("27: days (1 to 999); none");
        // no cost and x make 991 to 999 days; 990 is the last that is right, 1000 the first that is not
        bridge("t0,2;u0,3;u0,3;u0,3;u0,3;u0,3;c0;", 99, 990);
        bridge("t0,2;u0,3;u0,3;u0,3;u0,3;u0,3;c0;", 98, 980);
        String waits = "t0,2;u0,3;u0,3;c0;w3,";
        bridge(waits + "9;", 89, 989);
        bridge(waits + "9;", 90, NONE);
        bridge(waits + "8;", 79, 988);
        bridge(waits + "8;", 80, NONE);
        bridge(waits + "1;", 9, 900);
        bridge(waits + "1;", 10, NONE);
        bridge(waits + "0;", 1, NONE);
        bridge(waits + "0;", 99, NONE);
        Twins.changesNothing(CHECK, "bridge(0, 1), no cost", WhatWasEdgesTest::withoutCost, y -> y.bridge(0, 1), NONE);
    }

    private static void withoutCost(FourTenGates x) {
        Check.write(x, "t0,2;k1,2;c0;");
        x.lay();
        x.late(0, 4);
        x.keep();
    }

    private static void bridgeNumbers() {
        CHECK.about("27: x (1 to 99), RULES 0 to 3; BAD ahead of NONE");
        FourTenGates dear = Check.laid("t0,2;c99;");
        FourTenGates free = Check.laid("t0,2;c0;");
        for (int x = -1; x <= 101; x++) {
            boolean right = x >= 1 && x <= 99;
            CHECK.due("bridge(0, " + x + ")", dear.bridge(0, x), right ? 1 : BAD);
            CHECK.due("bridge(0, " + x + "), no cost", free.bridge(0, x), right ? NONE : BAD);
        }
        for (int rule : NO_RULES) {
            CHECK.due("bridge(" + rule + ", 1)", dear.bridge(rule, 1), BAD);
            CHECK.due("bridge(" + rule + ", 1), no cost", free.bridge(rule, 1), BAD);
            Twins.changesNothing(CHECK, "bridge(" + rule + ", 1)", y -> y.late(0, 5), y -> y.bridge(rule, 1), BAD);
        }
        int[] wrong = {0, 100, -1, Integer.MIN_VALUE, Integer.MAX_VALUE};
        for (int x : wrong) {
            Twins.changesNothing(CHECK, "bridge(0, " + x + ")", y -> y.late(0, 5), y -> y.bridge(0, x), BAD);
        }
        for (int rule = 0; rule < 4; rule++) {
            CHECK.due("bridge(" + rule + ", 99), no cost", free.bridge(rule, 99), NONE);
        }
    }

    private static void mean(FourTenGates x, int rule, int i, int above, int below) {
        CHECK.due("mean(" + rule + ", " + i + ", 0)", x.mean(rule, i, 0), above);
        CHECK.due("mean(" + rule + ", " + i + ", 1)", x.mean(rule, i, 1), below);
    }

    private static void meanInLowestTerms() {
        CHECK.about("28: in lowest terms");
        // in time it is stopped for 3 beats, a minute late for 354
        String hour = "t0,2;g3;c1;k0,1;";
        mean(Check.laid(hour + "o0,9;o1,1;"), 0, 0, 9 * 3 + 354, 10);
        mean(Check.laid(hour + "o0,8;o1,2;"), 0, 0, (8 * 3 + 2 * 354) / 2, 5);
        mean(Check.laid(hour + "o0,5;o1,5;"), 0, 0, (3 + 354), 2);
        mean(Check.laid(hour + "o0,10;"), 0, 0, 3, 1);
        mean(Check.laid(hour + "o0,10;o1,0;"), 0, 0, 3, 1);
        mean(Check.laid(hour + "o1,0;o0,5;o0,5;"), 0, 0, 3, 1);
        mean(Check.laid(hour + "o9,10;"), 0, 0, 306, 1);
        mean(Check.laid("t0,2;c0;o0,3;o9,7;"), 0, 0, 0, 1);
        mean(Check.laid("t0,2;t0,2;t0,2;t0,2;t0,2;t0,2;c99;o0,2;o1,2;o2,2;o3,2;o4,2;"), 0, 5, 99 * (6 * 360 - 12), 1);
    }

    private static void meanInPlaceOfWhatItIs() {
        CHECK.about("28: a TRAIN being late by the told odds (in place of what it is)");
        FourTenGates x = Check.laid("t0,2;t50,2;c1;o0,3;o1,7;");
        mean(x, 0, 0, (3 * 420 + 7 * 414) / 2, 5);
        x.late(0, 30);
        mean(x, 0, 0, (3 * 420 + 7 * 414) / 2, 5);
        x.late(1, 9);
        mean(x, 0, 0, (3 * 366 + 7 * 360) / 2, 5);
        mean(x, 0, 1, (3 * 240 + 7 * 234) / 2, 5);
        // out of the hour, by odds
        mean(Check.laid("t59,2;c1;o0,5;o1,5;"), 0, 0, 3, 1);
        Twins.changesNothing(CHECK, "mean(0, 0, 0)", y -> y.seen(40, 2), y -> y.mean(0, 0, 0), 546);
        Twins.changesNothing(CHECK, "mean(0, 0, 0), late", y -> y.late(0, 30), y -> y.mean(0, 0, 0), 546);
    }

    private static void meanNone() {
        CHECK.about("28: none (there are none)");
        mean(Check.laid("t0,2;"), 0, 0, NONE, NONE);
        mean(Check.laid("t0,2;c0;"), 3, 0, NONE, NONE);
        Twins.changesNothing(CHECK, "mean(0, 0, 0), no odds", WhatWasEdgesTest::withoutOdds, y -> y.mean(0, 0, 0), NONE);
        Twins.changesNothing(CHECK, "mean(0, 1, 0), no odds", WhatWasEdgesTest::withoutOdds, y -> y.mean(0, 1, 0), BAD);
    }

    private static void withoutOdds(FourTenGates x) {
        Check.write(x, "t0,2;k1,2;");
        x.lay();
        x.late(0, 4);
        x.keep();
    }

    private static void meanNumbers() {
        CHECK.about("28: RULES, TRAINS such as there are, part 0, 1; BAD ahead of NONE");
        FourTenGates x = Check.laid("t0,2;t0,2;c0;o0,10;");
        FourTenGates none = Check.laid("t0,2;t0,2;c0;");
        for (int rule = -1; rule <= 4; rule++) {
            for (int i = -1; i <= 2; i++) {
                boolean right = rule >= 0 && rule <= 3 && i >= 0 && i < 2;
                CHECK.due("mean(" + rule + ", " + i + ", 1)", x.mean(rule, i, 1), right ? 1 : BAD);
                CHECK.due("mean(" + rule + ", " + i + ", 1), no odds", none.mean(rule, i, 1), right ? NONE : BAD);
            }
        }
        for (int far : NEITHER) {
            CHECK.due("mean(0, 0, " + far + ")", x.mean(0, 0, far), BAD);
            CHECK.due("mean(0, 0, " + far + "), no odds", none.mean(0, 0, far), BAD);
            CHECK.due("mean(0, " + far + ", 0)", x.mean(0, far, 0), BAD);
            Twins.changesNothing(CHECK, "mean(0, 0, " + far + ")", y -> y.late(0, 5), y -> y.mean(0, 0, far), BAD);
        }
    }

    /** The draw with every step kept small, apart from the class's own. */
    private static int drawn(int z, int i) {
        int q = (7919 * z + 6151 * i + 1) % 65521;
        return (int) ((long) q * q % 65521) % 6;
    }

    private static void dayByDraws() {
        CHECK.about("29: z (0 to 9999): ((q times q) modulo 65521) modulo 6 minutes: COST; BEATS TRAINS are stopped");
        int[] draws = {0, 1, 2, 3, 7, 10, 99, 100, 271, 1000, 4999, 5000, 8191, 9998, 9999};
        for (int trains = 1; trains <= 6; trains++) {
            FourTenGates x = Check.laid("t0,2;".repeat(trains) + "c3;");
            for (int z : draws) {
                int stopped = 0;
                for (int i = 0; i < trains; i++) {
                    stopped += 360 - 6 * drawn(z, i);
                }
                CHECK.due(trains + " trains: day(0, " + z + ", 0)", x.day(0, z, 0), 3 * stopped);
                CHECK.due(trains + " trains: day(0, " + z + ", 1)", x.day(0, z, 1), stopped);
            }
        }
        // by hand: z 0 is 1 squared; z 9999 is 79182082 squared, 51303 modulo 65521
        CHECK.due("day(0, 0, 1)", Check.laid("t0,2;").day(0, 0, 1), 354);
        CHECK.due("day(0, 9999, 1)", Check.laid("t0,2;").day(0, 9999, 1), 342);
        // in place of what it is, and by the closings that there are
        FourTenGates x = Check.laid("t0,2;c1;");
        x.late(0, 30);
        CHECK.due("day(0, 0, 1), late", x.day(0, 0, 1), 354);
        x.shut(0, 2);
        CHECK.due("day(0, 0, 1), told", x.day(0, 0, 1), 0);
        CHECK.due("day(2, 0, 1), by sight", x.day(2, 0, 1), 5);
        // minute 59 and a draw of 1: behind the hour
        CHECK.due("day(0, 0, 1), behind the hour", Check.laid("t59,2;").day(0, 0, 1), 0);
    }

    private static void dayChangesNothing() {
        CHECK.about("29: nothing changes by it");
        int[] costs = {new FourTenGates().day(0, 0, 0), new FourTenGates().day(3, 9999, 0)};
        Twins.changesNothing(CHECK, "day(0, 0, 0)", y -> y.late(0, 5), y -> y.day(0, 0, 0), costs[0]);
        Twins.changesNothing(CHECK, "day(3, 9999, 0)", y -> y.late(0, 5), y -> y.day(3, 9999, 0), costs[1]);
    }

    private static void dayNumbers() {
        CHECK.about("29: RULES 0 to 3, z 0 to 9999, what 0, 1; BAD");
        FourTenGates x = Check.laid("t0,2;c0;");
        int[] draws = {-1, 0, 9999, 10000, Integer.MIN_VALUE, Integer.MAX_VALUE};
        for (int rule = -1; rule <= 4; rule++) {
            for (int z : draws) {
                boolean right = rule >= 0 && rule <= 3 && z >= 0 && z <= 9999;
                CHECK.due("day(" + rule + ", " + z + ", 0)", x.day(rule, z, 0), right ? 0 : BAD);
            }
        }
        for (int what : NEITHER) {
            CHECK.due("day(0, 0, " + what + ")", x.day(0, 0, what), BAD);
            Twins.changesNothing(CHECK, "day(0, 0, " + what + ")", y -> y.late(0, 5), y -> y.day(0, 0, what), BAD);
        }
        for (int z : new int[] {-1, 10000}) {
            Twins.changesNothing(CHECK, "day(0, " + z + ", 0)", y -> y.late(0, 5), y -> y.day(0, z, 0), BAD);
        }
        for (int rule : NO_RULES) {
            Twins.changesNothing(CHECK, "day(" + rule + ", 0, 0)", y -> y.late(0, 5), y -> y.day(rule, 0, 0), BAD);
        }
    }
}
