/** "BAD .. NO .. NONE .. FULL. Of several the first in this order; nothing changes then", for every call that can be refused. */
final class RefusedTest {
    private static final Check CHECK = new Check("RefusedTest");
    private static final int BAD = FourTenGates.BAD, NO = FourTenGates.NO;
    private static final int FULL = FourTenGates.FULL, NONE = FourTenGates.NONE;
    private static final int LEAST = Integer.MIN_VALUE, MOST = Integer.MAX_VALUE;

    public static void main(String[] args) {
        badOfOneNumber();
        badOfTwoNumbers();
        badOfThreeNumbers();
        badAheadOfTheOthers();
        no();
        none();
        full();
        askedOnly();
        theLastOf512Calls();
        CHECK.end();
    }

    /** Some of everything: a text begun, late trains, closings, what was seen, what can be undone, what is kept. */
    private static void some(FourTenGates x) {
        x.late(0, 7);
        x.shut(50, 51);
        x.keep();
        x.late(3, 30);
        x.leave(1);
        x.seen(40, 2);
        x.seen(0, 0);
        Check.write(x, "t1,0;k1,");
    }

    /** All that can be full is full; what is laid has no odds and costs nothing. */
    private static void all(FourTenGates x) {
        Check.write(x, "t59,2;t0,2;u59,0;c0;w0,0;a1,0;k0,60;" + "k1,2;".repeat(5));
        x.lay();
        for (int k = 0; k < 8; k++) {
            x.late(0, 30);
            x.seen(k, 0);
        }
        x.keep();
        x.keep();
        Check.write(x, "x".repeat(200 - x.count(6)));
    }

    private static void refused(String name, Twins.Call call, int want) {
        Twins.changesNothing(CHECK, name + " of some", RefusedTest::some, call, want);
    }

    private static void refusedOfAll(String name, Twins.Call call, int want) {
        Twins.changesNothing(CHECK, name + " of all", RefusedTest::all, call, want);
    }

    private static void refusedOfNew(String name, Twins.Call call, int want) {
        Twins.changesNothing(CHECK, name + " of a new one", y -> y.count(0), call, want);
    }

    private static void badOfOneNumber() {
        CHECK.about("BAD: a number is none that is told");
        int[] letters = {31, 127, -1, LEAST, MOST};
        for (int a : letters) {
            refused("write(" + a + ")", x -> x.write(a), BAD);
        }
        int[] rules = {-1, 4, LEAST, MOST};
        for (int a : rules) {
            refused("cost(" + a + ")", x -> x.cost(a), BAD);
        }
        int[] closings = {-1, 3, 6, LEAST, MOST};
        for (int a : closings) {
            refused("leave(" + a + ")", x -> x.leave(a), BAD);
        }
        int[] whats = {-1, 2, LEAST, MOST};
        for (int a : whats) {
            refused("cheapest(" + a + ")", x -> x.cheapest(a), BAD);
            refused("lead(" + a + ")", x -> x.lead(a), BAD);
        }
        int[] minutes = {-1, 60, LEAST, MOST};
        for (int a : minutes) {
            refused("which(" + a + ")", x -> x.which(a), BAD);
        }
        int[] counts = {-1, 7, LEAST, MOST};
        for (int a : counts) {
            refused("count(" + a + ")", x -> x.count(a), BAD);
        }
    }

    private static void badOfTwoNumbers() {
        CHECK.about("BAD: TRAINS, USERS, CLOSINGS, RULES: such as there are; BEATS 0 to 359");
        int[][] trains = {{-1, 0}, {4, 0}, {0, -1}, {0, 4}, {LEAST, 0}, {MOST, 0}, {0, LEAST}, {0, MOST}};
        for (int[] w : trains) {
            refused("train(" + w[0] + ", " + w[1] + ")", x -> x.train(w[0], w[1]), BAD);
        }
        int[][] users = {{-1, 0}, {6, 0}, {0, -1}, {0, 2}, {LEAST, 0}, {MOST, 0}, {0, LEAST}, {0, MOST}};
        for (int[] w : users) {
            refused("user(" + w[0] + ", " + w[1] + ")", x -> x.user(w[0], w[1]), BAD);
        }
        int[][] rules = {{-1, 0}, {4, 0}, {LEAST, 0}, {MOST, 0}, {0, -1}, {0, LEAST}, {0, MOST}};
        for (int[] w : rules) {
            String numbers = "(" + w[0] + ", " + w[1] + ")";
            refused("gates" + numbers, x -> x.gates(w[0], w[1]), BAD);
            refused("passed" + numbers, x -> x.passed(w[0], w[1]), BAD);
            refused("stopped" + numbers, x -> x.stopped(w[0], w[1]), BAD);
            refused("crossed" + numbers, x -> x.crossed(w[0], w[1]), BAD);
            refused("waited" + numbers, x -> x.waited(w[0], w[1]), BAD);
            refused("dinner" + numbers, x -> x.dinner(w[0], w[1]), BAD);
            refused("bridge" + numbers, x -> x.bridge(w[0], w[1]), BAD);
        }
        refused("gates(0, 360)", x -> x.gates(0, 360), BAD);
        refused("passed(0, 4)", x -> x.passed(0, 4), BAD);
        refused("stopped(0, 4)", x -> x.stopped(0, 4), BAD);
        refused("crossed(0, 6)", x -> x.crossed(0, 6), BAD);
        refused("waited(0, 6)", x -> x.waited(0, 6), BAD);
        refused("dinner(0, 2)", x -> x.dinner(0, 2), BAD);
        refused("bridge(0, 100)", x -> x.bridge(0, 100), BAD);
        int[][] lates = {{-1, 0}, {4, 0}, {0, -1}, {0, 31}, {LEAST, 0}, {MOST, 0}, {0, LEAST}, {0, MOST}};
        for (int[] w : lates) {
            refused("late(" + w[0] + ", " + w[1] + ")", x -> x.late(w[0], w[1]), BAD);
        }
        int[][] shuts = {{-1, 5}, {0, 61}, {5, 5}, {6, 5}, {60, 60}, {LEAST, MOST}, {MOST, LEAST}, {0, MOST}, {LEAST, 1}};
        for (int[] w : shuts) {
            refused("shut(" + w[0] + ", " + w[1] + ")", x -> x.shut(w[0], w[1]), BAD);
        }
        int[][] seens = {{-1, 0}, {360, 0}, {0, -1}, {0, 3}, {LEAST, 0}, {MOST, 0}, {0, LEAST}, {0, MOST}};
        for (int[] w : seens) {
            refused("seen(" + w[0] + ", " + w[1] + ")", x -> x.seen(w[0], w[1]), BAD);
        }
    }

    private static void badOfThreeNumbers() {
        CHECK.about("BAD: a number is none that is told");
        int[][] mores = {{-1, 0, 1}, {4, 0, 1}, {0, -1, 1}, {0, 4, 1}, {0, 0, 0}, {0, 0, 10}, {LEAST, 0, 1}, {0, MOST, 1}, {0, 0, MOST}};
        for (int[] w : mores) {
            refused("more(" + w[0] + ", " + w[1] + ", " + w[2] + ")", x -> x.more(w[0], w[1], w[2]), BAD);
        }
        int[][] nows = {{-1, 0, 0}, {10, 0, 0}, {0, -1, 0}, {0, 10, 0}, {0, 0, -1}, {0, 0, 2}, {MOST, 0, 0}, {0, LEAST, 0}, {0, 0, MOST}};
        for (int[] w : nows) {
            refused("byNow(" + w[0] + ", " + w[1] + ", " + w[2] + ")", x -> x.byNow(w[0], w[1], w[2]), BAD);
        }
        int[][] means = {{-1, 0, 0}, {4, 0, 0}, {0, -1, 0}, {0, 4, 0}, {0, 0, -1}, {0, 0, 2}, {LEAST, 0, 0}, {0, MOST, 0}, {0, 0, LEAST}};
        for (int[] w : means) {
            refused("mean(" + w[0] + ", " + w[1] + ", " + w[2] + ")", x -> x.mean(w[0], w[1], w[2]), BAD);
        }
        int[][] days = {{-1, 0, 0}, {4, 0, 0}, {0, -1, 0}, {0, 10000, 0}, {0, 0, -1}, {0, 0, 2}, {MOST, 0, 0}, {0, LEAST, 0}, {0, MOST, 1}};
        for (int[] w : days) {
            refused("day(" + w[0] + ", " + w[1] + ", " + w[2] + ")", x -> x.day(w[0], w[1], w[2]), BAD);
        }
    }

    private static void badAheadOfTheOthers() {
        CHECK.about("Of several the first in this order: BAD ahead of NO, NONE, FULL");
        refusedOfAll("write(127), FULL else", x -> x.write(127), BAD);
        refusedOfAll("shut(5, 5), FULL else", x -> x.shut(5, 5), BAD);
        refusedOfAll("shut(0, 61), FULL else", x -> x.shut(0, 61), BAD);
        refusedOfAll("seen(360, 0), FULL else", x -> x.seen(360, 0), BAD);
        refusedOfAll("seen(0, 3), FULL else", x -> x.seen(0, 3), BAD);
        refusedOfAll("more(0, 0, 10), NO else", x -> x.more(0, 0, 10), BAD);
        refusedOfAll("more(4, 0, 1), NO else", x -> x.more(4, 0, 1), BAD);
        refusedOfAll("more(-1, 0, 9), NO else", x -> x.more(-1, 0, 9), BAD);
        refusedOfAll("train(0, 4), of GOODS", x -> x.train(0, 4), BAD);
        refusedOfAll("passed(4, 0), NONE else", x -> x.passed(4, 0), BAD);
        refusedOfAll("passed(0, 2), there are two", x -> x.passed(0, 2), BAD);
        refusedOfAll("crossed(4, 0), NONE else", x -> x.crossed(4, 0), BAD);
        refusedOfAll("crossed(0, 1), there is one", x -> x.crossed(0, 1), BAD);
        refusedOfAll("dinner(0, 2), NONE else", x -> x.dinner(0, 2), BAD);
        refusedOfAll("dinner(4, 0), NONE by PLAN", x -> x.dinner(4, 0), BAD);
        refusedOfAll("byNow(10, 0, 0), NONE else", x -> x.byNow(10, 0, 0), BAD);
        refusedOfAll("byNow(0, 10, 0), NONE else", x -> x.byNow(0, 10, 0), BAD);
        refusedOfAll("byNow(0, 0, 2), NONE else", x -> x.byNow(0, 0, 2), BAD);
        refusedOfAll("bridge(0, 0), NONE else", x -> x.bridge(0, 0), BAD);
        refusedOfAll("bridge(0, 100), NONE else", x -> x.bridge(0, 100), BAD);
        refusedOfAll("bridge(4, 1), NONE else", x -> x.bridge(4, 1), BAD);
        refusedOfAll("mean(4, 0, 0), NONE else", x -> x.mean(4, 0, 0), BAD);
        refusedOfAll("mean(0, 2, 0), NONE else", x -> x.mean(0, 2, 0), BAD);
        refusedOfAll("mean(0, 0, 2), NONE else", x -> x.mean(0, 0, 2), BAD);
        refusedOfAll("leave(6)", x -> x.leave(6), BAD);
    }

    private static void no() {
        CHECK.about("NO: not as things stand");
        refused("lay(), a cut text", x -> x.lay(), NO);
        refusedOfNew("lay(), no text", x -> x.lay(), NO);
        refusedOfAll("lay(), a wrong text", x -> x.lay(), NO);
        refusedOfNew("undo()", x -> x.undo(), NO);
        refusedOfNew("back()", x -> x.back(), NO);
        refused("more(0, 3, 1), it is late by 30", x -> x.more(0, 3, 1), NO);
        refusedOfAll("more(3, 0, 9), it is late by 30", x -> x.more(3, 0, 9), NO);
    }

    private static void none() {
        CHECK.about("NONE: there is none");
        refusedOfNew("fault(), no text", x -> x.fault(), NONE);
        refused("train(2, 3), of GOODS", x -> x.train(2, 3), NONE);
        refusedOfAll("passed(0, 0), behind the hour", x -> x.passed(0, 0), NONE);
        refusedOfAll("crossed(0, 0), goes round", x -> x.crossed(0, 0), NONE);
        refusedOfAll("dinner(0, 0)", x -> x.dinner(0, 0), NONE);
        refusedOfAll("dinner(0, 1)", x -> x.dinner(0, 1), NONE);
        refused("byNow(5, 5, 0)", x -> x.byNow(5, 5, 0), NONE);
        refusedOfAll("byNow(0, 0, 0), no odds", x -> x.byNow(0, 0, 0), NONE);
        refusedOfAll("bridge(0, 99), no cost", x -> x.bridge(0, 99), NONE);
        refusedOfAll("mean(0, 0, 1), no odds", x -> x.mean(0, 0, 1), NONE);
    }

    private static void full() {
        CHECK.about("FULL");
        refusedOfAll("write(116)", x -> x.write(116), FULL);
        refusedOfAll("shut(0, 1)", x -> x.shut(0, 1), FULL);
        refusedOfAll("seen(0, 0)", x -> x.seen(0, 0), FULL);
        refusedOfAll("keep()", x -> x.keep(), FULL);
    }

    private static void askedOnly() {
        CHECK.about("who asks changes nothing");
        FourTenGates y = new FourTenGates();
        some(y);
        refused("fault()", x -> x.fault(), 5);
        refused("user(5, 1)", x -> x.user(5, 1), 0);
        refused("gates(3, 100)", x -> x.gates(3, 100), y.gates(3, 100));
        refused("cost(2)", x -> x.cost(2), y.cost(2));
        refused("cheapest(1)", x -> x.cheapest(1), y.cheapest(1));
        refused("lead(1)", x -> x.lead(1), y.lead(1));
        refused("more(1, 0, 9)", x -> x.more(1, 0, 9), y.more(1, 0, 9));
        refused("dinner(0, 1)", x -> x.dinner(0, 1), y.dinner(0, 1));
        refused("which(0)", x -> x.which(0), y.which(0));
        refused("fits()", x -> x.fits(), y.fits());
        refused("bridge(1, 99)", x -> x.bridge(1, 99), y.bridge(1, 99));
        refused("mean(2, 3, 0)", x -> x.mean(2, 3, 0), y.mean(2, 3, 0));
        refused("day(0, 4321, 1)", x -> x.day(0, 4321, 1), y.day(0, 4321, 1));
    }

    private static void theLastOf512Calls() {
        CHECK.about("An object is used for at most 512 calls");
        FourTenGates x = new FourTenGates();
        for (int k = 0; k < 510; k++) {
            x.late(0, k % 31);
        }
        CHECK.due("call 511: cost(0)", x.cost(0), lateByThirteen().cost(0));
        CHECK.due("call 512: undo()", x.undo(), 7);
        FourTenGates y = new FourTenGates();
        for (int k = 0; k < 511; k++) {
            y.write(';');
        }
        CHECK.due("call 512: count(6)", y.count(6), 200);
    }

    // 509 modulo 31
    private static FourTenGates lateByThirteen() {
        FourTenGates x = new FourTenGates();
        x.late(0, 13);
        return x;
    }
}
