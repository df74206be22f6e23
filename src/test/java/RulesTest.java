/** Promises 18 to 21: cheapest, lead, more, dinner. */
final class RulesTest {
    private static final Check CHECK = new Check("RulesTest");
    private static final int BAD = FourTenGates.BAD, NO = FourTenGates.NO, NONE = FourTenGates.NONE;
    private static final int[] WRONG = {-1, 2, Integer.MIN_VALUE, Integer.MAX_VALUE};

    public static void main(String[] args) {
        cheapest();
        lead();
        leadUpToNinetyNine();
        leadBehindTheHour();
        more();
        dinner();
        CHECK.end();
    }

    private static void cheapest() {
        // goods: the plan has none, no bell rings; by sight, and held, it is stopped for 1 + 4 beats
        FourTenGates x = Check.laid("t20,2;c3;");
        CHECK.due("cheapest(0)", x.cheapest(0), 2);
        CHECK.due("cheapest(1)", x.cheapest(1), 15);
        x.shut(19, 21);
        CHECK.due("cheapest(0), planned", x.cheapest(0), 0);
        CHECK.due("cheapest(1), planned", x.cheapest(1), 0);
        CHECK.due("cheapest(0), all the same", Check.laid("t20,2;c0;").cheapest(0), 0);
        CHECK.due("cheapest(0), bell and held the same", Check.laid("t20,1;").cheapest(0), 1);
        FourTenGates y = Check.laid("t20,1;");
        y.late(0, 30);
        y.shut(0, 1);
        CHECK.due("cheapest(0), late", y.cheapest(0), 1);
        for (int what : WRONG) {
            CHECK.due("cheapest(" + what + ")", x.cheapest(what), BAD);
            CHECK.due("lead(" + what + ")", x.lead(what), BAD);
        }
    }

    private static void lead() {
        FourTenGates x = Check.laid("t10,0;t20,2;g4;c1;");
        CHECK.due("lead(0), goods too", x.lead(0), 4);
        CHECK.due("lead(1)", x.lead(1), 0);
        // a flock that goes on the road at 54 would hold the gates till 84; kept off it, it waits from 54 to 66
        FourTenGates y = Check.laid("t10,0;u9,1;g4;c1;");
        CHECK.due("lead(0), ahead of the flock", y.lead(0), 6);
        CHECK.due("lead(1)", y.lead(1), 13);
        y.late(0, 10);
        CHECK.due("lead(0), late", y.lead(0), 4);
        CHECK.due("lead(1), late", y.lead(1), 0);
        y.undo();
        CHECK.due("lead(0), undone", y.lead(0), 6);
        CHECK.due("lead(0), no cost at all", Check.laid("t10,0;c0;").lead(0), 0);
        // shut in time for the train alone: less ahead it is stopped, more ahead is not cheaper
        FourTenGates z = Check.laid("t10,2;u9,1;g9;c99;w1,9;a99,99;");
        CHECK.due("lead(0), a dear train", z.lead(0), 9);
        CHECK.due("lead(1), a dear train", z.lead(1), (63 + 9 - 54) * 9);
    }

    private static void leadUpToNinetyNine() {
        // doctors take a beat each from 60 on; gates that move at once behind them keep the flock off the road,
        // else the bicycle of 66 waits for the flock and not for the gates
        FourTenGates x = Check.laid("t27,2;u10,2;u10,2;u10,2;u10,1;u11,3;g9;w1,0;w2,1;w3,9;a99,0;");
        CHECK.due("lead(0), from 63 on", x.lead(0), 99);
        CHECK.due("lead(1), from 63 on", x.lead(1), 1 + 2);
        FourTenGates y = Check.laid("t27,2;u10,2;u10,2;u10,1;u11,3;g9;w1,0;w2,1;w3,9;a99,0;");
        CHECK.due("lead(0), 62 is too far ahead", y.lead(0), 9);
        CHECK.due("lead(1), 62 is too far ahead", y.lead(1), 1 + (92 - 66) * 9);
    }

    private static void leadBehindTheHour() {
        FourTenGates x = Check.laid("t50,0;t59,2;u59,0;g9;c99;");
        CHECK.due("lead(1), both in the hour", x.lead(1) >= 0 ? 1 : 0, 1);
        x.late(1, 1);
        // nine beats ahead of the first one are nine ahead of beat 360 too: the cart waits for six
        CHECK.due("lead(0)", x.lead(0), 9);
        CHECK.due("lead(1)", x.lead(1), 6);
    }

    private static void more() {
        FourTenGates x = Check.laid("t0,2;t59,2;c1;");
        CHECK.due("more(0, 0, 1)", x.more(0, 0, 1), 99999 - 6);
        CHECK.due("more(0, 0, 9)", x.more(0, 0, 9), 99999 - 54);
        CHECK.due("more(0, 1, 9)", x.more(0, 1, 9), 99999 - 6);
        CHECK.due("more(2, 0, 1)", x.more(2, 0, 1), 99999);
        x.late(0, 21);
        CHECK.due("more(0, 0, 9) up to 30", x.more(0, 0, 9), 99999 - 54);
        x.late(0, 22);
        CHECK.due("more(0, 0, 8) up to 30", x.more(0, 0, 8), 99999 - 48);
        CHECK.due("more(0, 0, 9) above 30", x.more(0, 0, 9), NO);
        CHECK.due("train(0, 2), nothing changed", x.train(0, 2), 22);
        CHECK.due("count(4), nothing changed", x.count(4), 2);
        x.late(0, 30);
        CHECK.due("more(0, 0, 1) above 30", x.more(0, 0, 1), NO);
        int[][] wrong = {{-1, 0, 1}, {4, 0, 1}, {0, -1, 1}, {0, 2, 1}, {0, 0, 0}, {0, 0, 10}, {0, 0, Integer.MAX_VALUE},
            {0, 0, -1}, {Integer.MIN_VALUE, 0, 9}};
        for (int[] w : wrong) {
            CHECK.due("more(" + w[0] + ", " + w[1] + ", " + w[2] + ")", x.more(w[0], w[1], w[2]), BAD);
        }
        // two minutes later, the first one is passing as the plan would open, and all the others pass behind it
        FourTenGates z = Check.laid("t0,2;t3,2;t3,2;t3,2;t3,2;t3,2;c99;k0,1;k2,3;");
        CHECK.due("more(0, 0, 2), more saved than 99999", z.more(0, 0, 2), 99999 + 99 * 39 - 99 * (4 + 5 * 342));
        // the plan fits a train in time alone
        FourTenGates y = Check.laid("t10,1;c2;k9,11;");
        CHECK.due("more(0, 0, 1) of a plan", y.more(0, 0, 1), 99999 + 2 * 294);
    }

    private static void dinner() {
        FourTenGates x = Check.laid("t0,2;g1;k0,10;k20,30;k40,60;");
        CHECK.due("dinner(0, 0), two of 59", x.dinner(0, 0), 59);
        CHECK.due("dinner(0, 1), the first", x.dinner(0, 1), 61);
        FourTenGates y = Check.laid("t0,2;k0,60;");
        CHECK.due("dinner(0, 0), none", y.dinner(0, 0), NONE);
        CHECK.due("dinner(0, 1), none", y.dinner(0, 1), NONE);
        CHECK.due("dinner(1, 0), all", y.dinner(1, 0), 360);
        CHECK.due("dinner(1, 1), all", y.dinner(1, 1), 0);
        y.leave(0);
        CHECK.due("dinner(0, 0), left out", y.dinner(0, 0), 360);
        FourTenGates z = Check.laid("t0,2;k30,31;");
        CHECK.due("dinner(0, 0), the first row", z.dinner(0, 0), 180);
        CHECK.due("dinner(0, 1), the first row", z.dinner(0, 1), 0);
        for (int what : WRONG) {
            CHECK.due("dinner(0, " + what + ")", y.dinner(0, what), BAD);
        }
        CHECK.due("dinner(-1, 0)", y.dinner(-1, 0), BAD);
        CHECK.due("dinner(4, 0)", y.dinner(4, 0), BAD);
        FourTenGates v = Check.laid("t0,2;k0,60;");
        CHECK.due("dinner(0, 2), BAD ahead of NONE", v.dinner(0, 2), BAD);
    }
}
