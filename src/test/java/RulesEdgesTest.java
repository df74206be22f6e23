/** The edges of CHEAPEST, LEAD, MORE and DINNER: promises 18 to 21. */
final class RulesEdgesTest {
    private static final Check CHECK = new Check("RulesEdgesTest");
    private static final int BAD = FourTenGates.BAD, NO = FourTenGates.NO, NONE = FourTenGates.NONE;
    private static final int[] NEITHER = {-1, 2, Integer.MIN_VALUE, Integer.MAX_VALUE};

    public static void main(String[] args) {
        cheapestOfEachRule();
        cheapestOfSeveralTheFirst();
        cheapestWhat();
        leadOfSeveralTheLeast();
        leadFromNoughtToNinetyNine();
        leadOfGoodsAndOfTrainsBehindTheHour();
        leadWhat();
        moreByOneToNineMinutes();
        moreUpToThirty();
        moreOrLessThanNow();
        moreOfWhatThereIs();
        dinnerOfNoneAndOfAll();
        dinnerOfSeveral();
        dinnerAtTheEdges();
        dinnerWhat();
        CHECK.end();
    }

    private static void cheapest(String text, int rule, int cost) {
        FourTenGates x = Check.laid(text);
        CHECK.due(text + " cheapest(0)", x.cheapest(0), rule);
        CHECK.due(text + " cheapest(1)", x.cheapest(1), cost);
        CHECK.due(text + " cost of it", x.cost(rule), cost);
    }

    private static void cheapestOfEachRule() {
        CHECK.about("18: of RULES 0 to 3 the one of least COST: it; as much");
        // goods in the plan alone; a fast train, unplanned; by sight no doctor waits; both kinds: only held is for both
        cheapest("t20,2;k19,21;", 0, 0);
        cheapest("t20,1;c1;", 1, 0);
        cheapest("t20,1;u15,2;c1;w2,9;", 2, 5);
        cheapest("t10,1;t20,2;c1;", 3, 5);
    }

    private static void cheapestOfSeveralTheFirst() {
        CHECK.about("18: of several the first");
        cheapest("t20,2;c0;", 0, 0);
        cheapest("t20,1;k19,21;", 0, 0);
        cheapest("t20,0;", 1, 0);
        cheapest("t20,2;c3;", 2, 15);
        // by plan the cart waits for 17 beats of 6; by sight, and held, the train is stopped for 6 of 17
        cheapest("t20,2;u19,0;g5;c17;w0,6;k19,21;", 0, 102);
        CHECK.due("cost(2), as much", Check.laid("t20,2;u19,0;g5;c17;w0,6;k19,21;").cost(2), 102);
        CHECK.due("cost(3), as much", Check.laid("t20,2;u19,0;g5;c17;w0,6;k19,21;").cost(3), 102);
    }

    private static void cheapestWhat() {
        CHECK.about("18: what 0, 1; BAD");
        for (int what : NEITHER) {
            CHECK.due("cheapest(" + what + ")", new FourTenGates().cheapest(what), BAD);
            Twins.changesNothing(CHECK, "cheapest(" + what + ")", y -> y.late(0, 5), y -> y.cheapest(what), BAD);
        }
        Twins.changesNothing(CHECK, "cheapest(0)", y -> y.late(0, 5), y -> y.cheapest(0), 1);
        FourTenGates x = Check.laid("t20,2;k19,21;");
        CHECK.due("cheapest(0)", x.cheapest(0), 0);
        x.late(0, 5);
        CHECK.due("cheapest(0), late", x.cheapest(0), 2);
        x.undo();
        CHECK.due("cheapest(0), undone", x.cheapest(0), 0);
        x.leave(0);
        CHECK.due("cheapest(0), left out", x.cheapest(0), 2);
    }

    private static void lead(String text, int beats, int cost) {
        FourTenGates x = Check.laid(text);
        CHECK.due(text + " lead(0)", x.lead(0), beats);
        CHECK.due(text + " lead(1)", x.lead(1), cost);
    }

    private static void leadOfSeveralTheLeast() {
        CHECK.about("19: the n by which COST is least, of several the least: it; as much");
        lead("t20,2;c0;", 0, 0);
        lead("t20,2;c1;", 4, 0);
        for (int b = 1; b <= 9; b++) {
            lead("t20,2;g" + b + ";", b, 0);
        }
        // at minute 0 no n is ahead enough
        lead("t0,2;g9;c3;", 0, 27);
        // doctors are on the road from 114 to 119; each beat ahead keeps one of them waiting for 11 beats more (55),
        // each one less ahead stops the train for a beat, so that at 55 all n from 0 to 4 cost the same
        String doctors = "t20,2;" + "u19,2;".repeat(6);
        int queue = 5 * (1 + 2 + 3 + 4 + 5);
        lead(doctors + "c54;", 0, queue + 4 * 54);
        lead(doctors + "c55;", 0, queue + 4 * 55);
        lead(doctors + "c56;", 4, queue + 4 * 55);
    }

    private static void leadFromNoughtToNinetyNine() {
        CHECK.about("19: n (0 to 99) BEATS ahead");
        // doctors take the road for a beat each, then the flock would for thirty, and the bicycle of 66 would wait for it;
        // gates that begin to move right behind the doctors keep the flock off
        String behind = "u10,1;u11,3;g9;w1,0;w2,1;w3,9;a99,0;";
        lead("t27,2;u10,2;u10,2;u10,2;" + behind, 99, 1 + 2);
        lead("t27,2;u10,2;u10,2;" + behind, 9, 1 + (92 - 66) * 9);
        lead("t27,2;u10,2;u10,2;u10,2;u10,2;" + behind, 98, 1 + 2 + 3);
        // the more ahead the dearer: none is the cheapest
        lead("t20,2;" + "u19,2;".repeat(6) + "c0;", 0, 5 * (1 + 2 + 3 + 4 + 5));
    }

    private static void leadOfGoodsAndOfTrainsBehindTheHour() {
        CHECK.about("19: each TRAIN as it really comes (also of one that would come behind the hour), till it has passed");
        FourTenGates x = Check.laid("t20,0;t40,1;t59,2;u59,2;u59,2;g6;");
        CHECK.due("lead(0), three", x.lead(0), 6);
        x.late(2, 1);
        // six ahead of beat 360 is beat 354: doctors wait for six beats each, or the trains are stopped for six
        CHECK.due("lead(0), one behind the hour", x.lead(0), 6);
        CHECK.due("lead(1), one behind the hour", x.lead(1), 60);
        x.late(2, 2);
        CHECK.due("lead(0), far behind the hour", x.lead(0), 6);
        CHECK.due("lead(1), far behind the hour", x.lead(1), 5);
        x.late(0, 30);
        CHECK.due("lead(0), late ones, too", x.lead(0), 6);
    }

    private static void leadWhat() {
        CHECK.about("19: what 0, 1; BAD");
        for (int what : NEITHER) {
            CHECK.due("lead(" + what + ")", new FourTenGates().lead(what), BAD);
            Twins.changesNothing(CHECK, "lead(" + what + ")", y -> y.late(0, 5), y -> y.lead(what), BAD);
        }
        FourTenGates x = new FourTenGates();
        int beats = x.lead(0);
        Twins.changesNothing(CHECK, "lead(0)", y -> y.keep(), y -> y.lead(0), beats);
        // the plan is no matter of it
        x.leave(0);
        CHECK.due("lead(0), a closing left out", x.lead(0), beats);
    }

    private static void moreByOneToNineMinutes() {
        CHECK.about("20: d (1 to 9) minutes later; BAD");
        FourTenGates x = Check.laid("t0,2;c1;");
        for (int d = -2; d <= 11; d++) {
            CHECK.due("more(0, 0, " + d + ")", x.more(0, 0, d), d >= 1 && d <= 9 ? 99999 - 6 * d : BAD);
        }
        int[] wrong = {0, 10, -1, Integer.MIN_VALUE, Integer.MAX_VALUE};
        for (int d : wrong) {
            Twins.changesNothing(CHECK, "more(0, 0, " + d + ")", y -> y.late(0, 5), y -> y.more(0, 0, d), BAD);
            Twins.changesNothing(CHECK, "more(0, 0, " + d + "), BAD ahead of NO", y -> y.late(0, 30), y -> y.more(0, 0, d), BAD);
        }
    }

    private static void moreUpToThirty() {
        CHECK.about("20: NO: it would be above 30");
        for (int late = 20; late <= 30; late++) {
            FourTenGates x = Check.laid("t0,2;t0,2;c1;");
            x.late(0, late);
            for (int d = 1; d <= 9; d++) {
                CHECK.due("late by " + late + ": more(0, 0, " + d + ")", x.more(0, 0, d), late + d <= 30 ? 99999 - 6 * d : NO);
                CHECK.due("late by " + late + ": more(0, 1, " + d + "), another one", x.more(0, 1, d), 99999 - 6 * d);
            }
        }
        Twins.changesNothing(CHECK, "more(0, 0, 9)", y -> y.late(0, 22), y -> y.more(0, 0, 9), NO);
        Twins.changesNothing(CHECK, "more(4, 0, 9), BAD ahead of NO", y -> y.late(0, 22), y -> y.more(4, 0, 9), BAD);
        Twins.changesNothing(CHECK, "more(0, 4, 9), BAD ahead of NO", y -> y.late(0, 22), y -> y.more(0, 4, 9), BAD);
    }

    private static void moreOrLessThanNow() {
        CHECK.about("20: by how much COST would be more, and 99999");
        FourTenGates x = Check.laid("t10,1;c1;k9,11;");
        CHECK.due("more(0, 0, 1), 294 beats more", x.more(0, 0, 1), 99999 + 294);
        CHECK.due("more(1, 0, 1), the same", x.more(1, 0, 1), 99999);
        Twins.changesNothing(CHECK, "more(1, 0, 1)", y -> y.late(0, 21), y -> y.more(0, 2, 9), new FourTenGates().more(0, 2, 9));
        x.late(0, 1);
        CHECK.due("more(0, 0, 9), later than it is", x.more(0, 0, 9), 99999 - 54);
        FourTenGates last = Check.laid("t59,2;c99;");
        CHECK.due("more(0, 0, 1), out of the hour", last.more(0, 0, 1), 99999 - 594);
        FourTenGates dear = Check.laid("t0,2;t3,2;t3,2;t3,2;t3,2;t3,2;c99;k0,1;k2,3;");
        CHECK.due("more(0, 0, 2), more saved than 99999", dear.more(0, 0, 2), 99999 + 99 * 39 - 99 * (4 + 5 * 342));
    }

    private static void moreOfWhatThereIs() {
        CHECK.about("20: TRAINS, RULES such as there are; BAD");
        for (int rule = -1; rule <= 4; rule++) {
            boolean right = rule >= 0 && rule <= 3;
            FourTenGates x = Check.laid("t20,2;t20,2;c0;");
            for (int i = -1; i <= 6; i++) {
                CHECK.due("more(" + rule + ", " + i + ", 1)", x.more(rule, i, 1), right && i >= 0 && i < 2 ? 99999 : BAD);
            }
        }
        CHECK.due("more(min, 0, 1)", new FourTenGates().more(Integer.MIN_VALUE, 0, 1), BAD);
        CHECK.due("more(max, 0, 1)", new FourTenGates().more(Integer.MAX_VALUE, 0, 1), BAD);
        CHECK.due("more(0, min, 1)", new FourTenGates().more(0, Integer.MIN_VALUE, 1), BAD);
        CHECK.due("more(0, max, 1)", new FourTenGates().more(0, Integer.MAX_VALUE, 1), BAD);
    }

    private static void dinner(String text, int rule, int beats, int first) {
        FourTenGates x = Check.laid(text);
        CHECK.due(text + " dinner(" + rule + ", 0)", x.dinner(rule, 0), beats);
        CHECK.due(text + " dinner(" + rule + ", 1)", x.dinner(rule, 1), first);
    }

    private static void dinnerOfNoneAndOfAll() {
        CHECK.about("21: the longest row of BEATS in which the gates are OPEN: how many; the first one's number; none");
        dinner("t0,2;k0,60;", 0, NONE, NONE);
        dinner("t0,2;k0,60;", 1, 360, 0);
        dinner("t0,2;", 0, 360, 0);
        // open for one beat alone, the last
        dinner("t0,2;g1;k0,59;", 0, 5, 355);
        dinner("t0,2;g5;k0,59;", 0, 1, 359);
        dinner("t0,2;g6;k0,59;", 0, NONE, NONE);
        // by sight the train of beat 0 passes from 2 to 4
        dinner("t0,2;g1;", 2, 354, 6);
    }

    private static void dinnerOfSeveral() {
        CHECK.about("21: the longest; of several the first");
        dinner("t0,2;g1;k0,10;k20,30;k40,60;", 0, 59, 61);
        dinner("t0,2;g1;k0,10;k20,30;k41,60;", 0, 65, 181);
        dinner("t0,2;g1;k0,10;k21,30;k40,60;", 0, 65, 61);
    }

    private static void dinnerAtTheEdges() {
        CHECK.about("21: a row from BEAT 0 on, a row up to BEAT 359");
        dinner("t59,2;c0;k31,60;", 0, 186, 0);
        dinner("t0,2;c0;k0,29;", 0, 360 - 178, 178);
        dinner("t59,2;c0;k59,60;", 0, 354, 0);
    }

    private static void dinnerWhat() {
        CHECK.about("21: RULES 0 to 3, what 0, 1; BAD ahead of NONE");
        for (int what : NEITHER) {
            CHECK.due("dinner(0, " + what + ")", Check.laid("t0,2;k0,60;").dinner(0, what), BAD);
            CHECK.due("dinner(1, " + what + ")", Check.laid("t0,2;k0,60;").dinner(1, what), BAD);
            Twins.changesNothing(CHECK, "dinner(0, " + what + ")", y -> y.shut(0, 60), y -> y.dinner(0, what), BAD);
        }
        int[] rules = {-1, 4, Integer.MIN_VALUE, Integer.MAX_VALUE};
        for (int rule : rules) {
            Twins.changesNothing(CHECK, "dinner(" + rule + ", 0)", y -> y.shut(0, 60), y -> y.dinner(rule, 0), BAD);
        }
        Twins.changesNothing(CHECK, "dinner(0, 0)", y -> y.shut(0, 60), y -> y.dinner(0, 0), NONE);
        Twins.changesNothing(CHECK, "dinner(0, 1)", y -> y.shut(0, 60), y -> y.dinner(0, 1), NONE);
    }
}
