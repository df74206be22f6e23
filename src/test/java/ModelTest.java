import java.util.Random;

/** Long drawn runs of calls on all promises: the class and the model must answer alike. */
final class ModelTest {
    private static final Check CHECK = new Check("ModelTest");
    private static final int RUNS = 400, CALLS = 512;

    public static void main(String[] args) {
        int runs = args.length > 0 ? Integer.parseInt(args[0]) : RUNS;
        for (int run = 0; run < runs; run++) {
            oneRun(new Random(4100 + run));
        }
        CHECK.end();
    }

    private static void oneRun(Random random) {
        FourTenGates x = new FourTenGates();
        Model y = new Model();
        int calls = 0;
        while (calls < CALLS) {
            if (random.nextInt(120) == 0 || calls == 0 && random.nextInt(8) > 0) {
                calls += layAnother(random, x, y, CALLS - calls);
            } else {
                oneCall(random, x, y, random.nextInt(32));
                calls++;
            }
        }
    }

    private static int layAnother(Random random, FourTenGates x, Model y, int most) {
        String text = random.nextInt(3) == 0 ? crowd(random) : anyText(random);
        if (text.length() + 3 > most) {
            text = "t1,0;";
        }
        CHECK.due("wipe()", x.wipe(), y.wipe());
        for (int k = 0; k < text.length(); k++) {
            CHECK.due("write", x.write(text.charAt(k)), y.write(text.charAt(k)));
        }
        CHECK.due("fault() of " + text, x.fault(), y.fault());
        CHECK.due("lay() of " + text, x.lay(), y.lay());
        return text.length() + 3;
    }

    /** Trains and users close to one another, so that all wait for all. */
    private static String crowd(Random random) {
        StringBuilder text = new StringBuilder();
        int middle = random.nextInt(60);
        for (int k = 1 + random.nextInt(6); k > 0; k--) {
            item(text, 't', near(random, middle), random.nextInt(3));
        }
        for (int k = random.nextInt(9); k > 0; k--) {
            item(text, 'u', near(random, middle), random.nextInt(4));
        }
        for (int k = random.nextInt(4); k > 0; k--) {
            int from = near(random, middle);
            item(text, 'k', from, Math.min(60, from + 1 + random.nextInt(5)));
        }
        text.append('g').append(1 + random.nextInt(9)).append(';');
        text.append('c').append(random.nextInt(100)).append(';');
        item(text, 'w', random.nextInt(4), random.nextInt(10));
        item(text, 'a', 1 + random.nextInt(99), random.nextInt(100));
        int tenths = random.nextInt(11);
        item(text, 'o', random.nextInt(10), tenths);
        item(text, 'o', random.nextInt(10), 10 - tenths);
        return text.toString();
    }

    private static int near(Random random, int middle) {
        return Math.max(0, Math.min(59, middle + random.nextInt(9) - 4));
    }

    private static void item(StringBuilder text, char letter, int first, int second) {
        text.append(letter).append(first).append(',').append(second).append(';');
    }

    private static String anyText(Random random) {
        StringBuilder text = new StringBuilder();
        String letters = "ttttuuuukkgcwaoo";
        for (int k = random.nextInt(26); k > 0; k--) {
            char letter = letters.charAt(random.nextInt(letters.length()));
            text.append(letter).append(random.nextInt(letter == 'g' || letter == 'o' ? 10 : 60));
            if (letter != 'g' && letter != 'c') {
                text.append(',').append(random.nextInt(letter == 'k' ? 62 : letter == 'a' ? 100 : letter == 'o' ? 11 : 4));
            }
            text.append(';');
        }
        if (random.nextInt(3) == 0 && text.length() > 0) {
            text.setCharAt(random.nextInt(text.length()), (char) (32 + random.nextInt(95)));
        }
        return text.substring(0, Math.min(text.length(), 210));
    }

    /** Mostly 0 to most, at times just outside it or far away. */
    private static int number(Random random, int most) {
        int draw = random.nextInt(40);
        if (draw == 0) {
            return -1;
        }
        if (draw == 1) {
            return most + 1;
        }
        if (draw == 2) {
            return random.nextBoolean() ? Integer.MIN_VALUE : Integer.MAX_VALUE;
        }
        return random.nextInt(most + 1);
    }

    private static void oneCall(Random random, FourTenGates x, Model y, int call) {
        if (call < 14) {
            askHour(random, x, y, call);
        } else if (call < 23) {
            change(random, x, y, call);
        } else {
            askMore(random, x, y, call);
        }
    }

    private static void askHour(Random random, FourTenGates x, Model y, int call) {
        int rule = number(random, 3);
        int i = number(random, call < 10 ? 5 : 7);
        int beat = number(random, 359);
        switch (call) {
            case 0: case 1: case 2: CHECK.due("gates(" + rule + ", " + beat + ")", x.gates(rule, beat), y.gates(rule, beat)); break;
            case 3: case 4: CHECK.due("passed(" + rule + ", " + i + ")", x.passed(rule, i), y.passed(rule, i)); break;
            case 5: case 6: CHECK.due("stopped(" + rule + ", " + i + ")", x.stopped(rule, i), y.stopped(rule, i)); break;
            case 7: CHECK.due("cost(" + rule + ")", x.cost(rule), y.cost(rule)); break;
            case 8: int what = number(random, 3); CHECK.due("train(" + i + ", " + what + ")", x.train(i, what), y.train(i, what)); break;
            case 9: int m = number(random, 59); CHECK.due("which(" + m + ")", x.which(m), y.which(m)); break;
            case 10: case 11: CHECK.due("crossed(" + rule + ", " + i + ")", x.crossed(rule, i), y.crossed(rule, i)); break;
            case 12: CHECK.due("waited(" + rule + ", " + i + ")", x.waited(rule, i), y.waited(rule, i)); break;
            default: int w = number(random, 1); CHECK.due("user(" + i + ", " + w + ")", x.user(i, w), y.user(i, w)); break;
        }
    }

    private static void change(Random random, FourTenGates x, Model y, int call) {
        int i = number(random, 5);
        int a = number(random, 60);
        int b = a > 0 && a < 50 ? a + random.nextInt(9) : number(random, 60);
        switch (call) {
            case 14: case 15: int l = number(random, 30); CHECK.due("late(" + i + ", " + l + ")", x.late(i, l), y.late(i, l)); break;
            case 16: CHECK.due("shut(" + a + ", " + b + ")", x.shut(a, b), y.shut(a, b)); break;
            case 17: CHECK.due("leave(" + i + ")", x.leave(i), y.leave(i)); break;
            case 18: CHECK.due("undo()", x.undo(), y.undo()); break;
            case 19: int how = number(random, 2); int at = number(random, 359);
                CHECK.due("seen(" + at + ", " + how + ")", x.seen(at, how), y.seen(at, how)); break;
            case 20: if (random.nextInt(3) == 0) CHECK.due("forget()", x.forget(), y.forget()); break;
            case 21: CHECK.due("keep()", x.keep(), y.keep()); break;
            default: CHECK.due("back()", x.back(), y.back()); break;
        }
    }

    private static void askMore(Random random, FourTenGates x, Model y, int call) {
        int rule = number(random, 3);
        int i = number(random, 5);
        int part = number(random, 1);
        int d = number(random, 9);
        switch (call) {
            case 23: CHECK.due("cheapest(" + part + ")", x.cheapest(part), y.cheapest(part)); break;
            case 24: CHECK.due("lead(" + part + ")", x.lead(part), y.lead(part)); break;
            case 25: CHECK.due("more(" + rule + ", " + i + ", " + d + ")", x.more(rule, i, d), y.more(rule, i, d)); break;
            case 26: CHECK.due("dinner(" + rule + ", " + part + ")", x.dinner(rule, part), y.dinner(rule, part)); break;
            case 27: int m = number(random, 9);
                CHECK.due("byNow(" + m + ", " + d + ", " + part + ")", x.byNow(m, d, part), y.byNow(m, d, part)); break;
            case 28: CHECK.due("fits()", x.fits(), y.fits()); break;
            case 29: int b = number(random, 99); CHECK.due("bridge(" + rule + ", " + b + ")", x.bridge(rule, b), y.bridge(rule, b)); break;
            case 30: CHECK.due("mean(" + rule + ", " + i + ", " + part + ")", x.mean(rule, i, part), y.mean(rule, i, part)); break;
            default: int z = number(random, 9999); int c = number(random, 6);
                CHECK.due("day(" + rule + ", " + z + ", " + part + ")", x.day(rule, z, part), y.day(rule, z, part));
                CHECK.due("count(" + c + ")", x.count(c), y.count(c)); break;
        }
    }
}
