/** Promises 1 to 7: a new object, write, wipe, fault, lay, train, user. */
final class CrossingsTest {
    private static final Check CHECK = new Check("CrossingsTest");
    private static final int BAD = FourTenGates.BAD, NO = FourTenGates.NO;
    private static final int FULL = FourTenGates.FULL, NONE = FourTenGates.NONE;

    public static void main(String[] args) {
        newObject();
        write();
        wipe();
        faultOfEachItem();
        faultOfForm();
        faultOfTooMany();
        layRefuses();
        layBegins();
        layDefaults();
        layLastCounts();
        train();
        user();
        CHECK.end();
    }

    private static void newObject() {
        FourTenGates x = new FourTenGates();
        int[] counts = {4, 6, 3, 0, 0, 0, 0};
        for (int what = 0; what < counts.length; what++) {
            CHECK.due("new: count(" + what + ")", x.count(what), counts[what]);
        }
        int[][] trains = {{10, 0}, {13, 1}, {30, 2}, {41, 0}};
        for (int i = 0; i < trains.length; i++) {
            CHECK.due("new: train(" + i + ", 0)", x.train(i, 0), trains[i][0]);
            CHECK.due("new: train(" + i + ", 1)", x.train(i, 1), trains[i][1]);
            CHECK.due("new: train(" + i + ", 2)", x.train(i, 2), 0);
        }
        int[][] users = {{8, 0}, {9, 1}, {12, 2}, {29, 3}, {31, 0}, {40, 0}};
        for (int i = 0; i < users.length; i++) {
            CHECK.due("new: user(" + i + ", 0)", x.user(i, 0), users[i][0]);
            CHECK.due("new: user(" + i + ", 1)", x.user(i, 1), users[i][1]);
        }
        CHECK.due("new: fault()", x.fault(), NONE);
        CHECK.due("new: lay()", x.lay(), NO);
        CHECK.due("new: undo()", x.undo(), NO);
        CHECK.due("new: back()", x.back(), NO);
        CHECK.due("new: wipe()", x.wipe(), 0);
        sameHourAsTold();
    }

    private static void sameHourAsTold() {
        FourTenGates x = new FourTenGates();
        FourTenGates y = Check.laid("t10,0;t13,1;t30,2;t41,0;u8,0;u9,1;u12,2;u29,3;u31,0;u40,0;"
            + "g4;c20;a60,30;k6,14;k29,32;k38,43;o0,5;o2,3;o5,2;");
        for (int rule = 0; rule < 4; rule++) {
            CHECK.due("new: cost(" + rule + ")", x.cost(rule), y.cost(rule));
            CHECK.due("new: mean(" + rule + ", 1, 0)", x.mean(rule, 1, 0), y.mean(rule, 1, 0));
        }
    }

    private static void write() {
        FourTenGates x = new FourTenGates();
        int[] wrong = {31, 127, 0, -1, 10, 128, 255, Integer.MIN_VALUE, Integer.MAX_VALUE};
        for (int letter : wrong) {
            CHECK.due("write(" + letter + ")", x.write(letter), BAD);
        }
        CHECK.due("count(6) behind wrong letters", x.count(6), 0);
        CHECK.due("write(32)", x.write(32), 1);
        CHECK.due("write(126)", x.write(126), 2);
        for (int k = 3; k <= 200; k++) {
            CHECK.due("write(65)", x.write(65), k);
        }
        CHECK.due("write(65), the 201st", x.write(65), FULL);
        CHECK.due("write(127) on a full text", x.write(127), BAD);
        CHECK.due("count(6) of a full text", x.count(6), 200);
    }

    private static void wipe() {
        FourTenGates x = Check.written("t1,0;");
        CHECK.due("wipe()", x.wipe(), 5);
        CHECK.due("wipe() again", x.wipe(), 0);
        CHECK.due("count(6)", x.count(6), 0);
        CHECK.due("write('t') behind wipe", x.write('t'), 1);
        CHECK.due("fault() behind wipe", x.fault(), 0);
    }

    private static void fault(String text, int want) {
        FourTenGates x = Check.written(text);
        CHECK.due("fault() of " + text, x.fault(), want);
        CHECK.due("count(6) behind fault() of " + text, x.count(6), text.length());
        CHECK.due("count(0) behind fault() of " + text, x.count(0), 4);
    }

    private static void faultOfEachItem() {
        String[] right = {"", "t0,0;", "t59,2;", "u0,0;", "u59,3;", "g1;", "g9;", "c0;", "c99;", "w0,0;", "w3,9;",
            "a1,0;", "a99,99;", "k0,1;", "k0,60;", "k59,60;", "o0,0;", "o9,10;", "t00,00;", "g09;", "k05,06;"};
        for (String text : right) {
            fault(text, NONE);
            fault("t7,1;" + text, NONE);
        }
        String[] wrong = {"t60,0;", "t0,3;", "t99,0;", "u60,0;", "u0,4;", "g0;", "g10;", "g00;", "c100;", "w4,0;",
            "w0,10;", "a0,5;", "a00,5;", "a1,100;", "k5,5;", "k6,5;", "k0,61;", "k60,60;", "k60,61;", "o10,0;", "o0,11;"};
        for (String text : wrong) {
            fault(text, 0);
            fault("t17,1;" + text + "g0;", 6);
        }
    }

    private static void faultOfForm() {
        String[] wrong = {"t", "t1", "t1,", "t1,0", "t;", "t1;", "t,0;", "t1,;", "t1,0,0;", "t001,0;", "t1,000;", "T1,0;",
            " t1,0;", "t 1,0;", "t1 ,0;", "t-1,0;", "t+1,0;", "t1.0;", "t1;0;", "g;", "g4,1;", "g4,;", "g44;", "c;", "c5,5;",
            "c5", "w1;", "a5;", "k5;", "o5;", ";", ",", "1,0;", "x1,0;", "tt1,0;", "~", "b1;", "z1,1;", "t1,0:", "t/,0;"};
        for (String text : wrong) {
            fault(text, 0);
            fault("g4;t17,1;" + text, 9);
        }
        fault("t1,0; ", 5);
        fault("t1,0;;", 5);
        fault("t1,0;\u007e", 5);
        fault("t1,0;u70,0;g0;", 5);
        fault("g4;c20;t1,0;o0,5", 12);
    }

    private static void faultOfTooMany() {
        fault("t1,0;".repeat(6), NONE);
        fault("t1,0;".repeat(7), 30);
        fault("u1,0;".repeat(8), NONE);
        fault("u1,0;".repeat(9), 40);
        fault("k1,2;".repeat(6), NONE);
        fault("k1,2;".repeat(7), 30);
        fault("o1,2;".repeat(5), NONE);
        fault("o1,2;".repeat(6), 25);
        fault("g1;".repeat(66), NONE);
        fault("c1;".repeat(66), NONE);
        fault("w1,1;".repeat(40), NONE);
        fault("a1,1;".repeat(40), NONE);
        fault("a1,1;".repeat(39) + "t1,0,", 195);
        // how much all odds are together is a matter of laying, not of one item
        fault("o1,5;", NONE);
        fault("o1,9;o2,9;", NONE);
    }

    private static void layRefuses() {
        String[] texts = {"", "u1,0;", "g4;c20;k1,2;o0,10;", "t1,0;o3,5;", "t1,0;o0,0;", "t1,0;o0,10;o1,1;", "t1,0;o0,9;",
            "t60,0;", "t1,0;t1,3;", "t1,0;u1,0", "t1,0; "};
        for (String text : texts) {
            FourTenGates x = new FourTenGates();
            x.late(0, 7);
            x.shut(50, 51);
            x.seen(1, 0);
            x.keep();
            int cost = x.cost(0);
            Check.write(x, text);
            CHECK.due("lay() of " + text, x.lay(), NO);
            int[] counts = {4, 6, 4, 1, 2, 1, text.length()};
            for (int what = 0; what < counts.length; what++) {
                CHECK.due("count(" + what + ") behind lay() of " + text, x.count(what), counts[what]);
            }
            CHECK.due("train(0, 2) behind lay() of " + text, x.train(0, 2), 7);
            CHECK.due("cost(0) behind lay() of " + text, x.cost(0), cost);
        }
    }

    private static void layBegins() {
        String text = "t5,1;t59,2;u3,2;k1,2;k3,4;o2,4;o2,6;";
        FourTenGates x = new FourTenGates();
        x.late(0, 8);
        x.late(1, 9);
        x.shut(50, 51);
        x.seen(1, 0);
        x.seen(2, 0);
        x.keep();
        x.keep();
        CHECK.due("cost(0) ahead", x.cost(0) >= 0 ? 1 : 0, 1);
        Check.write(x, text);
        CHECK.due("lay()", x.lay(), 2);
        int[] counts = {2, 1, 2, 0, 0, 0, text.length()};
        for (int what = 0; what < counts.length; what++) {
            CHECK.due("count(" + what + ") behind lay()", x.count(what), counts[what]);
        }
        CHECK.due("train(0, 2) behind lay()", x.train(0, 2), 0);
        CHECK.due("train(1, 2) behind lay()", x.train(1, 2), 0);
        CHECK.due("undo() behind lay()", x.undo(), NO);
        CHECK.due("back() behind lay()", x.back(), NO);
        CHECK.due("fits() behind lay()", x.fits(), 15);
        CHECK.due("train(2, 0) behind lay()", x.train(2, 0), BAD);
        x.late(1, 4);
        CHECK.due("lay() again", x.lay(), 2);
        CHECK.due("train(1, 2) behind lay() again", x.train(1, 2), 0);
        CHECK.due("lay() of odds of 10", Check.written("t1,0;o0,0;o3,10;").lay(), 1);
        CHECK.due("lay() of six", Check.written("t1,0;".repeat(6)).lay(), 6);
    }

    private static void layDefaults() {
        FourTenGates x = Check.laid("t0,2;u1,0;k0,60;");
        CHECK.due("gates take 4: gates(0, 3)", x.gates(0, 3), 1);
        CHECK.due("gates take 4: gates(0, 4)", x.gates(0, 4), 2);
        CHECK.due("a train costs 20, a cart 1, going round 30 behind 60: cost(0)", x.cost(0), 4 * 20 + 60 + 30);
        CHECK.due("patience is 60: waited(0, 0)", x.waited(0, 0), 60);
        CHECK.due("flock: cost(0)", Check.laid("t0,2;u1,1;k0,60;").cost(0), 4 * 20 + 60 + 30);
        CHECK.due("doctor: cost(0)", Check.laid("t0,2;u1,2;k0,60;").cost(0), 4 * 20 + 60 * 5 + 30);
        CHECK.due("bicycle: cost(0)", Check.laid("t0,2;u1,3;k0,60;").cost(0), 4 * 20 + 60 + 30);
    }

    private static void layLastCounts() {
        FourTenGates x = Check.laid("t0,2;u1,0;k0,60;g9;g2;c1;c3;w0,1;w0,4;w1,9;a9,9;a5,7;");
        CHECK.due("g9;g2; gates(0, 1)", x.gates(0, 1), 1);
        CHECK.due("g9;g2; gates(0, 2)", x.gates(0, 2), 2);
        CHECK.due("the last ones count: cost(0)", x.cost(0), 2 * 3 + 5 * 4 + 7);
        // what one text told is not left over for the next
        x.wipe();
        Check.write(x, "t0,2;u1,0;k0,60;");
        CHECK.due("lay() of a text without", x.lay(), 1);
        CHECK.due("without again: cost(0)", x.cost(0), 4 * 20 + 60 + 30);
    }

    private static void train() {
        FourTenGates x = Check.laid("t11,0;t6,1;t59,2;t12,0;t7,1;t5,1;");
        int[] bells = {0, 0, NONE, 6, 6, 0};
        for (int i = 0; i < bells.length; i++) {
            CHECK.due("train(" + i + ", 3)", x.train(i, 3), bells[i]);
        }
        CHECK.due("train(2, 0)", x.train(2, 0), 59);
        CHECK.due("train(2, 1)", x.train(2, 1), 2);
        x.late(0, 30);
        CHECK.due("train(0, 0), late", x.train(0, 0), 11);
        CHECK.due("train(0, 2), late", x.train(0, 2), 30);
        CHECK.due("train(0, 3), late", x.train(0, 3), 41 * 6 - 66);
        FourTenGates y = Check.laid("t59,0;t59,1;");
        y.late(0, 11);
        y.late(1, 6);
        CHECK.due("bell in the hour, slow train behind it", y.train(0, 3), 354);
        CHECK.due("bell in the hour, fast train behind it", y.train(1, 3), 354);
        y.late(0, 12);
        y.late(1, 7);
        CHECK.due("bell behind the hour, slow", y.train(0, 3), NONE);
        CHECK.due("bell behind the hour, fast", y.train(1, 3), NONE);
        int[][] wrong = {{-1, 0}, {2, 0}, {0, -1}, {0, 4}, {Integer.MIN_VALUE, 0}, {Integer.MAX_VALUE, 3}, {6, 2}};
        for (int[] w : wrong) {
            CHECK.due("train(" + w[0] + ", " + w[1] + ")", y.train(w[0], w[1]), BAD);
        }
    }

    private static void user() {
        FourTenGates x = Check.laid("t1,0;u59,3;u0,0;");
        CHECK.due("user(0, 0)", x.user(0, 0), 59);
        CHECK.due("user(0, 1)", x.user(0, 1), 3);
        CHECK.due("user(1, 0)", x.user(1, 0), 0);
        int[][] wrong = {{-1, 0}, {2, 0}, {0, -1}, {0, 2}, {8, 1}, {Integer.MAX_VALUE, 0}, {0, Integer.MIN_VALUE}};
        for (int[] w : wrong) {
            CHECK.due("user(" + w[0] + ", " + w[1] + ")", x.user(w[0], w[1]), BAD);
        }
        CHECK.due("user(0, 0) without users", Check.laid("t1,0;").user(0, 0), BAD);
    }
}
