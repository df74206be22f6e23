/** The edges of an hour as the terms tell it, and of promises 8 to 13; all hours are worked out by hand. */
final class HourEdgesTest {
    private static final Check CHECK = new Check("HourEdgesTest");
    private static final int BAD = FourTenGates.BAD, NONE = FourTenGates.NONE;
    private static final int[] FAR = {Integer.MIN_VALUE, Integer.MAX_VALUE, Integer.MIN_VALUE + 3, 1000, 65536};

    public static void main(String[] args) {
        closingFromItsAOnAtItsBNoMore();
        closingsSideBySide();
        bellFromItsBeatOn();
        bellTillThatTrainHasPassed();
        bellOfATrainBehindTheHour();
        sight();
        heldTwentyFourBeatsAhead();
        heldOnlyByTrainsThatAreNoGoods();
        gatesTakeOneToNineBeats();
        gatesDoNotTurnRoundHalfWay();
        gatesWaitForTheRoad();
        gatesStayShutForTrains();
        nothingIsLeftOfAnotherHour();
        trainsOneBehindTheOther();
        trainBehindABicycle();
        firstAndLastMinute();
        firstAndLastBeat();
        behindTheHour();
        beatsOnTheRoad();
        onlyBicyclesWhileGatesMove();
        doctorsAheadElseByNumbers();
        patienceOfOneToNinetyNine();
        costOfTheLeastAndTheMost();
        rulesSuchAsThereAre();
        beatsOfTheHour();
        trainsAndUsersSuchAsThereAre();
        CHECK.end();
    }

    private static void gates(FourTenGates x, int rule, int[][] due) {
        for (int[] d : due) {
            CHECK.due("gates(" + rule + ", " + d[0] + ")", x.gates(rule, d[0]), d[1]);
        }
    }

    private static void closingFromItsAOnAtItsBNoMore() {
        CHECK.about("8: in a CLOSING (from its A on, at its B no more)");
        for (int a = 0; a < 60; a += 7) {
            for (int b = a + 1; b <= 60; b += 5) {
                FourTenGates x = Check.laid("t0,2;g1;c0;k" + a + "," + b + ";");
                x.late(0, 30);
                CHECK.due("k" + a + "," + b + "; gates(0, 6 A)", x.gates(0, 6 * a), 1);
                CHECK.due("k" + a + "," + b + "; gates(0, 6 A + 1)", x.gates(0, 6 * a + 1), 2);
                CHECK.due("k" + a + "," + b + "; gates(0, 6 A - 1)", x.gates(0, 6 * a - 1), a == 0 ? BAD : 0);
                boolean passing = a <= 30 && b > 30;
                CHECK.due("k" + a + "," + b + "; gates(0, 6 B - 1)", x.gates(0, 6 * b - 1), 2);
                CHECK.due("k" + a + "," + b + "; gates(0, 6 B)", x.gates(0, 6 * b), b == 60 ? BAD : 1);
                CHECK.due("k" + a + "," + b + "; passed(0, 0)", x.passed(0, 0), whenPassed(a, b, passing));
            }
        }
    }

    /** The train comes at 180: into shut gates, while they shut (181), or before they ever do. */
    private static int whenPassed(int a, int b, boolean passing) {
        if (passing) {
            return a == 30 ? 181 : 180;
        }
        return b <= 30 ? NONE : 6 * a + 1;
    }

    private static void closingsSideBySide() {
        CHECK.about("8: CLOSINGS that meet, or lie in one another, are one row of shut gates");
        gates(Check.laid("t59,2;g1;c0;k10,11;k11,12;"), 0, new int[][] {{59, 0}, {60, 1}, {61, 2}, {66, 2}, {71, 2}, {72, 1}, {73, 0}});
        gates(Check.laid("t59,2;g1;c0;k11,12;k10,11;"), 0, new int[][] {{59, 0}, {60, 1}, {61, 2}, {66, 2}, {71, 2}, {72, 1}, {73, 0}});
        gates(Check.laid("t59,2;g1;c0;k10,20;k12,13;"), 0, new int[][] {{60, 1}, {72, 2}, {78, 2}, {119, 2}, {120, 1}, {121, 0}});
        gates(Check.laid("t59,2;c0;"), 0, new int[][] {{0, 0}, {180, 0}, {359, 0}});
    }

    private static void bellFromItsBeatOn() {
        CHECK.about("8: 1 BELL: from a BELL on");
        gates(Check.laid("t20,0;"), 1, new int[][] {{53, 0}, {54, 1}, {57, 1}, {58, 2}, {122, 2}, {123, 1}});
        gates(Check.laid("t20,1;"), 1, new int[][] {{83, 0}, {84, 1}, {87, 1}, {88, 2}, {122, 2}, {123, 1}});
        gates(Check.laid("t20,2;"), 1, new int[][] {{0, 0}, {54, 0}, {84, 0}, {120, 0}, {121, 0}, {359, 0}});
        gates(Check.laid("t11,0;"), 1, new int[][] {{0, 1}, {4, 2}});
        gates(Check.laid("t12,0;"), 1, new int[][] {{0, 0}, {5, 0}, {6, 1}, {10, 2}});
        gates(Check.laid("t6,1;"), 1, new int[][] {{0, 1}, {4, 2}});
        gates(Check.laid("t7,1;"), 1, new int[][] {{0, 0}, {5, 0}, {6, 1}, {10, 2}});
        gates(Check.laid("t0,0;"), 1, new int[][] {{0, 1}, {4, 2}, {6, 2}, {7, 1}});
        FourTenGates late = Check.laid("t20,0;");
        late.late(0, 1);
        gates(late, 1, new int[][] {{54, 0}, {59, 0}, {60, 1}, {64, 2}, {128, 2}, {129, 1}});
    }

    private static void bellTillThatTrainHasPassed() {
        CHECK.about("8: 1 BELL: till that TRAIN has passed");
        // a bell of the second train rings while the first one passes: shut till both have
        gates(Check.laid("t11,1;t16,1;g1;"), 1, new int[][] {{29, 0}, {30, 1}, {31, 2}, {66, 2}, {69, 2}, {98, 2}, {99, 1}, {100, 0}});
        // six minutes and three beats apart they open between: the bell of the second one rings at 72
        gates(Check.laid("t11,1;t18,1;g1;"), 1, new int[][] {{68, 2}, {69, 1}, {70, 0}, {71, 0}, {72, 1}, {73, 2}, {110, 2}, {111, 1}});
    }

    private static void bellOfATrainBehindTheHour() {
        CHECK.about("8, 9: who comes behind the hour never does, but its BELL rings, if that is in the hour");
        int[][] lastBells = {{0, 11}, {1, 6}};
        for (int[] b : lastBells) {
            FourTenGates x = Check.laid("t59," + b[0] + ";");
            x.late(0, b[1]);
            gates(x, 1, new int[][] {{353, 0}, {354, 1}, {357, 1}, {358, 2}, {359, 2}});
            CHECK.due("passed(1, 0)", x.passed(1, 0), NONE);
            CHECK.due("stopped(1, 0)", x.stopped(1, 0), 0);
            CHECK.due("cost(1)", x.cost(1), 0);
            x.late(0, b[1] + 1);
            gates(x, 1, new int[][] {{353, 0}, {354, 0}, {359, 0}});
        }
    }

    private static void sight() {
        CHECK.about("8: 2 SIGHT: while a TRAIN is passing, or was stopped in the BEAT ahead");
        FourTenGates x = Check.laid("t10,1;g1;c1;");
        gates(x, 2, new int[][] {{59, 0}, {60, 0}, {61, 1}, {62, 2}, {64, 2}, {65, 1}, {66, 0}, {359, 0}});
        CHECK.due("stopped(2, 0)", x.stopped(2, 0), 2);
        CHECK.due("passed(2, 0)", x.passed(2, 0), 62);
        // one that comes as the gates begin to open again is stopped till they have been open
        FourTenGates y = Check.laid("t10,1;t11,1;g5;c1;");
        gates(y, 2, new int[][] {{60, 0}, {61, 1}, {65, 1}, {66, 2}, {71, 2}, {72, 1}, {76, 1}, {77, 0}});
        CHECK.due("stopped(2, 1)", y.stopped(2, 1), 3);
        FourTenGates z = Check.laid("t10,1;t12,1;g5;c1;");
        gates(z, 2, new int[][] {{68, 2}, {69, 1}, {73, 1}, {74, 1}, {78, 1}, {79, 2}, {81, 2}, {82, 1}, {87, 0}});
        CHECK.due("stopped(2, 1)", z.stopped(2, 1), 7);
    }

    private static void heldTwentyFourBeatsAhead() {
        CHECK.about("8: 3 HELD: due by the book at this BEAT or one of the next 24");
        int[][] cases = {{4, 0}, {5, 6}, {20, 96}, {29, 150}, {59, 330}};
        for (int[] c : cases) {
            int due = 6 * c[0];
            for (int kind = 0; kind < 2; kind++) {
                FourTenGates x = Check.laid("t" + c[0] + "," + kind + ";g1;");
                x.late(0, 30);
                CHECK.due("due at " + due + ": gates(3, 24 ahead)", x.gates(3, c[1]), 1);
                CHECK.due("due at " + due + ": gates(3, 23 ahead)", x.gates(3, c[1] + 1), 2);
                CHECK.due("due at " + due + ": gates(3, 25 ahead)", x.gates(3, c[1] - 1), c[1] == 0 ? BAD : 0);
                CHECK.due("due at " + due + ": gates(3, due)", x.gates(3, due), 2);
                CHECK.due("due at " + due + ": gates(3, a beat behind)", x.gates(3, due + 1), 1);
                CHECK.due("due at " + due + ": gates(3, two behind)", x.gates(3, due + 2), 0);
            }
        }
        // due at 0 to 18, less than 24 beats are left
        gates(heldLate(0), 3, new int[][] {{0, 1}, {1, 1}, {2, 0}});
        gates(heldLate(3), 3, new int[][] {{0, 1}, {1, 2}, {18, 2}, {19, 1}, {20, 0}});
    }

    private static FourTenGates heldLate(int minute) {
        FourTenGates x = Check.laid("t" + minute + ",0;g1;");
        x.late(0, 30);
        return x;
    }

    private static void heldOnlyByTrainsThatAreNoGoods() {
        CHECK.about("8: 3 HELD: as 1 or as 2, and a TRAIN that is no GOODS");
        FourTenGates goods = Check.laid("t20,2;g1;c1;");
        gates(goods, 3, new int[][] {{96, 0}, {119, 0}, {120, 0}, {121, 1}, {122, 2}, {124, 2}, {125, 1}});
        goods.late(0, 30);
        gates(goods, 3, new int[][] {{96, 0}, {120, 0}, {121, 0}, {300, 0}, {301, 1}, {302, 2}, {305, 1}});
        // as 1: the bell of a slow train rings long before
        gates(Check.laid("t20,0;g1;"), 3, new int[][] {{53, 0}, {54, 1}, {55, 2}, {122, 2}, {123, 1}});
        // and a train that has passed is awaited no more, though it is due by the book
        gates(Check.laid("t0,1;g1;"), 3, new int[][] {{0, 1}, {1, 2}, {3, 2}, {4, 1}, {5, 0}});
    }

    private static void gatesTakeOneToNineBeats() {
        CHECK.about("8: the gates take B (1 to 9) BEATS each way");
        for (int b = 1; b <= 9; b++) {
            FourTenGates x = Check.laid("t59,2;c0;k10,20;g" + b + ";");
            gates(x, 0, new int[][] {{59, 0}, {60, 1}, {60 + b - 1, 1}, {60 + b, 2}, {119, 2}, {120, 1}, {120 + b - 1, 1}, {120 + b, 0}});
        }
        gates(Check.laid("t59,2;c0;k10,20;"), 0, new int[][] {{60, 1}, {63, 1}, {64, 2}, {120, 1}, {123, 1}, {124, 0}});
    }

    private static void gatesDoNotTurnRoundHalfWay() {
        CHECK.about("8: they are OPEN at first, and do not turn round half way");
        gates(Check.laid("t59,2;c0;k59,60;"), 0, new int[][] {{0, 0}, {1, 0}, {353, 0}});
        gates(Check.laid("t59,2;c0;g9;k1,2;"), 0, new int[][] {{6, 1}, {12, 1}, {14, 1}, {15, 1}, {23, 1}, {24, 0}});
        gates(Check.laid("t59,2;c0;g9;k1,2;k3,4;"), 0, new int[][] {{15, 1}, {18, 1}, {23, 1}, {24, 0}, {359, 0}});
        gates(Check.laid("t59,2;c0;g9;k1,2;k3,5;"), 0, new int[][] {{18, 1}, {23, 1}, {24, 1}, {32, 1}, {33, 1}, {41, 1}, {42, 0}});
        gates(Check.laid("t59,2;c0;g6;k1,2;"), 0, new int[][] {{6, 1}, {11, 1}, {12, 1}, {17, 1}, {18, 0}});
        gates(Check.laid("t59,2;c0;g5;k1,2;"), 0, new int[][] {{6, 1}, {10, 1}, {11, 2}, {12, 1}, {16, 1}, {17, 0}});
    }

    private static void gatesWaitForTheRoad() {
        CHECK.about("8: OPEN, the RULE wants them shut, and nobody is on the road");
        // on the road from 6 to 35, from 6 to 7; the closing begins a beat, or none, too early
        gates(Check.laid("t59,2;c0;g1;u1,1;k2,60;"), 0, new int[][] {{12, 0}, {35, 0}, {36, 1}, {37, 2}});
        gates(Check.laid("t59,2;c0;g1;u1,1;k6,60;"), 0, new int[][] {{35, 0}, {36, 1}, {37, 2}});
        gates(Check.laid("t59,2;c0;g1;u1,1;k2,6;"), 0, new int[][] {{35, 0}, {36, 0}, {359, 0}});
        // five users keep the road till the closing begins; the cart of 5 is still on it at 6
        FourTenGates x = Check.laid("t59,2;c0;g1;u0,2;u0,0;u0,0;u0,0;u0,3;k1,60;");
        int[] crossed = {0, 1, 3, 5, 7};
        for (int i = 0; i < crossed.length; i++) {
            CHECK.due("crossed(0, " + i + ")", x.crossed(0, i), crossed[i]);
        }
        gates(x, 0, new int[][] {{5, 0}, {6, 0}, {7, 1}, {8, 2}});
    }

    private static void gatesStayShutForTrains() {
        CHECK.about("8: SHUT, the RULE does not, no TRAIN is passing, none was stopped in the BEAT ahead");
        // the closing ends at 60, as the train comes: too early for it; at 66, as two have passed; at 66, as a third one waits
        gates(Check.laid("t10,2;g1;k9,10;"), 0, new int[][] {{59, 2}, {60, 1}, {61, 0}});
        gates(Check.laid("t10,2;t10,2;g1;k9,11;"), 0, new int[][] {{65, 2}, {66, 1}});
        gates(Check.laid("t10,2;t10,2;t10,2;g1;k9,11;"), 0, new int[][] {{65, 2}, {66, 2}, {68, 2}, {69, 1}});
        // the last train begins at 66 only because the one that waits was stopped at 65
        CHECK.due("passed(0, 2)", Check.laid("t10,2;t10,2;t10,2;g1;k9,11;").passed(0, 2), 66);
        FourTenGates x = Check.laid("t10,2;g4;k9,11;c1;");
        x.leave(0);
        x.shut(10, 11);
        gates(x, 0, new int[][] {{59, 0}, {60, 1}, {63, 1}, {64, 2}, {66, 2}, {67, 1}});
        CHECK.due("passed(0, 0)", x.passed(0, 0), 64);
    }

    private static void nothingIsLeftOfAnotherHour() {
        CHECK.about("8 to 13: they are OPEN at first: nothing of an hour that was asked for is left in the next");
        // by sight a train that is stopped in the last beat, one that passes in it, a flock that is on the road, one that waits
        FourTenGates x = Check.laid("t59,2;t59,2;u59,1;u59,0;g9;c1;");
        int stopped = x.cost(2);
        CHECK.due("cost(2)", stopped, 6 + 6 + 6);
        x.late(0, 0);
        CHECK.due("cost(2) again", x.cost(2), stopped);
        gates(x, 2, new int[][] {{0, 0}, {1, 0}, {353, 0}});
        CHECK.due("more(2, 0, 1), one behind the hour", x.more(2, 0, 1) - 99999 + stopped, 6 + 6);
        x.late(0, 9);
        x.late(1, 9);
        CHECK.due("cost(2), both behind the hour", x.cost(2), 6);
        gates(x, 2, new int[][] {{0, 0}, {1, 0}, {359, 0}});
    }

    private static void trainsOneBehindTheOther() {
        CHECK.about("9, 10: TRAINS, 0 first; passes in this BEAT and the next two; no other one is passing (nor begins to)");
        FourTenGates x = Check.laid("t10,2;t10,1;t10,0;t10,2;t10,1;t10,0;g1;c1;k9,20;");
        for (int i = 0; i < 6; i++) {
            CHECK.due("passed(0, " + i + ")", x.passed(0, i), 60 + 3 * i);
            CHECK.due("stopped(0, " + i + ")", x.stopped(0, i), 3 * i);
        }
        CHECK.due("cost(0)", x.cost(0), 3 + 6 + 9 + 12 + 15);
        // a lower number goes first, though the other one has waited longer: the rail is free again at 66 for both
        FourTenGates y = Check.laid("t11,2;t10,2;t10,2;t10,2;g1;c1;k9,20;");
        int[] passed = {66, 60, 63, 69};
        for (int i = 0; i < 4; i++) {
            CHECK.due("passed(0, " + i + ") by numbers", y.passed(0, i), passed[i]);
        }
    }

    private static void trainBehindABicycle() {
        CHECK.about("9: if the gates are SHUT, nobody is on the road");
        // the bicycle goes on the road in the last beat in which the gates move; in the next one the train passes
        FourTenGates x = Check.laid("t2,2;u1,3;u1,3;u1,3;u1,3;u1,3;u1,3;g6;c1;k1,9;");
        for (int i = 0; i < 6; i++) {
            CHECK.due("crossed(0, " + i + ")", x.crossed(0, i), 6 + i);
        }
        CHECK.due("gates(0, 11)", x.gates(0, 11), 1);
        CHECK.due("gates(0, 12)", x.gates(0, 12), 2);
        CHECK.due("passed(0, 0)", x.passed(0, 0), 12);
        CHECK.due("stopped(0, 0)", x.stopped(0, 0), 0);
        // and in the last beat in which they open
        FourTenGates y = Check.laid("t59,2;u3,3;u3,0;g9;c0;k1,2;");
        CHECK.due("crossed(0, 0), opening", y.crossed(0, 0), 18);
        CHECK.due("crossed(0, 1), open", y.crossed(0, 1), 24);
    }

    private static void firstAndLastMinute() {
        CHECK.about("9, 11: a minute is 0 to 59, a TRAIN comes at six times it");
        FourTenGates x = Check.laid("t0,2;t59,2;u0,0;u59,0;g1;c1;k0,1;k58,60;");
        CHECK.due("passed(0, 0)", x.passed(0, 0), 1);
        CHECK.due("stopped(0, 0)", x.stopped(0, 0), 1);
        CHECK.due("passed(0, 1)", x.passed(0, 1), 354);
        CHECK.due("stopped(0, 1)", x.stopped(0, 1), 0);
        CHECK.due("crossed(0, 0)", x.crossed(0, 0), 7);
        CHECK.due("waited(0, 0)", x.waited(0, 0), 7);
        CHECK.due("crossed(0, 1)", x.crossed(0, 1), NONE);
        CHECK.due("waited(0, 1)", x.waited(0, 1), 6);
        CHECK.due("cost(0)", x.cost(0), 1 + 7 + 6);
        CHECK.due("crossed(0, 0), open", Check.laid("t30,2;u0,0;u59,0;").crossed(0, 0), 0);
        CHECK.due("crossed(0, 1), open", Check.laid("t30,2;u0,0;u59,0;").crossed(0, 1), 354);
    }

    private static void firstAndLastBeat() {
        CHECK.about("9, 11: NONE: not in the hour; BEATS 0 to 359");
        FourTenGates x = Check.laid("t59,2;g4;c1;");
        CHECK.due("passed(2, 0), at the last beat", x.passed(2, 0), 359);
        CHECK.due("stopped(2, 0)", x.stopped(2, 0), 5);
        CHECK.due("gates(2, 359)", x.gates(2, 359), 2);
        FourTenGates y = Check.laid("t59,2;g5;c1;");
        CHECK.due("passed(2, 0), a beat too late", y.passed(2, 0), NONE);
        CHECK.due("stopped(2, 0)", y.stopped(2, 0), 6);
        CHECK.due("gates(2, 359)", y.gates(2, 359), 1);
        FourTenGates z = Check.laid("t0,2;c0;u59,2;u59,2;u59,2;u59,0;u59,3;u59,3;");
        int[] crossed = {354, 355, 356, 357, 359, NONE};
        int[] waited = {0, 1, 2, 3, 5, 6};
        for (int i = 0; i < 6; i++) {
            CHECK.due("crossed(0, " + i + ")", z.crossed(0, i), crossed[i]);
            CHECK.due("waited(0, " + i + ")", z.waited(0, i), waited[i]);
        }
        CHECK.due("cost(0)", z.cost(0), 5 * 3 + 3 + 5 + 6);
    }

    private static void behindTheHour() {
        CHECK.about("9, 10: late by 0 to 30 minutes; who comes behind the hour never does");
        int[][] due = {{59, 0, 6}, {59, 1, 0}, {59, 30, 0}, {30, 29, 6}, {30, 30, 0}, {29, 30, 6}, {0, 0, 360}, {0, 30, 180}};
        for (int[] d : due) {
            FourTenGates x = Check.laid("t" + d[0] + ",2;c99;");
            x.late(0, d[1]);
            CHECK.due("t" + d[0] + " late by " + d[1] + ": stopped(0, 0)", x.stopped(0, 0), d[2]);
            CHECK.due("t" + d[0] + " late by " + d[1] + ": cost(0)", x.cost(0), 99 * d[2]);
            CHECK.due("t" + d[0] + " late by " + d[1] + ": passed(0, 0)", x.passed(0, 0), NONE);
        }
    }

    private static void beatsOnTheRoad() {
        CHECK.about("11: CARTS for 2 BEATS, FLOCKS for 30, DOCTORS, BICYCLES for 1, this one the first");
        int[] beats = {2, 30, 1, 1};
        for (int sort = 0; sort < 4; sort++) {
            FourTenGates x = Check.laid("t0,2;c0;u5," + sort + ";u5," + sort + ";");
            CHECK.due("SORT " + sort + ": crossed(0, 0)", x.crossed(0, 0), 30);
            CHECK.due("SORT " + sort + ": crossed(0, 1)", x.crossed(0, 1), 30 + beats[sort]);
            CHECK.due("SORT " + sort + ": waited(0, 1)", x.waited(0, 1), beats[sort]);
        }
    }

    private static void onlyBicyclesWhileGatesMove() {
        CHECK.about("11: all can cross if the gates are OPEN, BICYCLES also if they move");
        for (int sort = 0; sort < 4; sort++) {
            FourTenGates x = Check.laid("t59,2;c0;g9;u1," + sort + ";k1,2;");
            CHECK.due("SORT " + sort + ", shutting: crossed(0, 0)", x.crossed(0, 0), sort == 3 ? 6 : 24);
            FourTenGates y = Check.laid("t59,2;c0;g9;u3," + sort + ";k1,2;");
            CHECK.due("SORT " + sort + ", opening: crossed(0, 0)", y.crossed(0, 0), sort == 3 ? 18 : 24);
            FourTenGates z = Check.laid("t59,2;c0;g1;u2," + sort + ";k1,5;");
            CHECK.due("SORT " + sort + ", shut: crossed(0, 0)", z.crossed(0, 0), sort == 3 ? 30 : 31);
        }
    }

    private static void doctorsAheadElseByNumbers() {
        CHECK.about("11: the first one who waits and can cross (DOCTORS ahead of all, else by numbers)");
        FourTenGates x = Check.laid("t0,2;c0;u1,0;u0,1;u2,2;u1,3;u3,2;u0,0;");
        int[] crossed = {32, 0, 30, 34, 31, 35};
        for (int i = 0; i < 6; i++) {
            CHECK.due("crossed(0, " + i + ")", x.crossed(0, i), crossed[i]);
        }
        // while gates move a doctor cannot: the bicycle behind it does
        FourTenGates y = Check.laid("t59,2;c0;g9;u1,2;u1,0;u1,3;u1,3;k1,2;");
        int[] moving = {24, 25, 6, 7};
        for (int i = 0; i < 4; i++) {
            CHECK.due("crossed(0, " + i + "), moving", y.crossed(0, i), moving[i]);
        }
    }

    private static void patienceOfOneToNinetyNine() {
        CHECK.about("12: who has waited P (1 to 99) BEATS goes round then; its BEATS of waiting cost, too");
        int[] beats = {1, 2, 59, 60, 61, 98, 99};
        for (int p : beats) {
            FourTenGates x = Check.laid("t0,2;c0;u1,0;k0,60;w0,9;a" + p + ",99;");
            CHECK.due("P " + p + ": waited(0, 0)", x.waited(0, 0), p);
            CHECK.due("P " + p + ": crossed(0, 0)", x.crossed(0, 0), NONE);
            CHECK.due("P " + p + ": cost(0)", x.cost(0), 9 * p + 99);
        }
        // the flock keeps the road for 30 beats: with a patience of 30 the cart has gone as it could cross, with 31 it has not
        FourTenGates y = Check.laid("t0,2;c0;u1,1;u1,0;a30,7;");
        CHECK.due("P 30: crossed(0, 1)", y.crossed(0, 1), NONE);
        CHECK.due("P 30: waited(0, 1)", y.waited(0, 1), 30);
        CHECK.due("P 30: cost(0)", y.cost(0), 37);
        FourTenGates z = Check.laid("t0,2;c0;u1,1;u1,0;a31,7;");
        CHECK.due("P 31: crossed(0, 1)", z.crossed(0, 1), 36);
        CHECK.due("P 31: waited(0, 1)", z.waited(0, 1), 30);
        CHECK.due("P 31: cost(0)", z.cost(0), 30);
        // who comes so late that the hour ends sooner does not go round; one beat more and it does
        CHECK.due("P 7 at minute 59: cost(0)", Check.laid("t0,2;c0;u59,0;k0,60;a7,99;").cost(0), 6);
        CHECK.due("P 6 at minute 59: cost(0)", Check.laid("t0,2;c0;u59,0;k0,60;a6,99;").cost(0), 6 + 99);
    }

    private static void costOfTheLeastAndTheMost() {
        CHECK.about("13: COST: all BEATS that TRAINS are stopped, that USERS wait, and going round, of the hour");
        CHECK.due("nothing costs", Check.laid("t0,2;u0,0;u0,0;c0;w0,0;a1,0;").cost(0), 0);
        CHECK.due("all costs the most", Check.laid("t0,2;".repeat(6) + "u0,1;".repeat(8) + "c99;w1,9;a99,99;k1,2;g9;").cost(0),
            6 * 360 * 99 + 9 * (30 + 60 + 90) + 4 * (9 * 99 + 99));
        CHECK.due("one beat", Check.laid("t0,2;u0,3;u0,3;c0;w3,1;").cost(0), 1);
        CHECK.due("T 1", Check.laid("t59,2;c1;").cost(0), 6);
        CHECK.due("T 99", Check.laid("t59,2;c99;").cost(0), 594);
    }

    private static void rulesSuchAsThereAre() {
        CHECK.about("8 to 13: RULES 0 to 3; BAD");
        FourTenGates x = new FourTenGates();
        for (int rule = -1; rule <= 4; rule++) {
            boolean right = rule >= 0 && rule <= 3;
            CHECK.due("gates(" + rule + ", 0)", x.gates(rule, 0) >= 0 ? 1 : x.gates(rule, 0), right ? 1 : BAD);
            CHECK.due("passed(" + rule + ", 0)", x.passed(rule, 0) >= 0 ? 1 : x.passed(rule, 0), right ? 1 : BAD);
            CHECK.due("stopped(" + rule + ", 0)", x.stopped(rule, 0) >= 0 ? 1 : x.stopped(rule, 0), right ? 1 : BAD);
            CHECK.due("crossed(" + rule + ", 0)", x.crossed(rule, 0) >= 0 ? 1 : x.crossed(rule, 0), right ? 1 : BAD);
            CHECK.due("waited(" + rule + ", 0)", x.waited(rule, 0) >= 0 ? 1 : x.waited(rule, 0), right ? 1 : BAD);
            CHECK.due("cost(" + rule + ")", x.cost(rule) >= 0 ? 1 : x.cost(rule), right ? 1 : BAD);
        }
        for (int far : FAR) {
            CHECK.due("gates(" + far + ", 0)", x.gates(far, 0), BAD);
            CHECK.due("gates(0, " + far + ")", x.gates(0, far), BAD);
            CHECK.due("passed(" + far + ", 0)", x.passed(far, 0), BAD);
            CHECK.due("passed(0, " + far + ")", x.passed(0, far), BAD);
            CHECK.due("stopped(" + far + ", 0)", x.stopped(far, 0), BAD);
            CHECK.due("stopped(0, " + far + ")", x.stopped(0, far), BAD);
            CHECK.due("crossed(" + far + ", 0)", x.crossed(far, 0), BAD);
            CHECK.due("crossed(0, " + far + ")", x.crossed(0, far), BAD);
            CHECK.due("waited(" + far + ", 0)", x.waited(far, 0), BAD);
            CHECK.due("waited(0, " + far + ")", x.waited(0, far), BAD);
            CHECK.due("cost(" + far + ")", x.cost(far), BAD);
        }
        // BAD comes ahead of NONE: by the bell the cart at 31 never crosses
        CHECK.due("crossed(1, 4)", x.crossed(1, 4), NONE);
        CHECK.due("crossed(-1, 4)", x.crossed(-1, 4), BAD);
        CHECK.due("passed(4, 2) of a train that never does", Check.laid("t1,2;t1,2;t1,2;").passed(4, 2), BAD);
    }

    private static void beatsOfTheHour() {
        CHECK.about("8: BEATS 0 to 359; BAD");
        for (int rule = 0; rule < 4; rule++) {
            FourTenGates x = Check.laid("t0,0;k0,60;");
            CHECK.due("gates(" + rule + ", -1)", x.gates(rule, -1), BAD);
            CHECK.due("gates(" + rule + ", 0)", x.gates(rule, 0), rule == 2 ? 0 : 1);
            CHECK.due("gates(" + rule + ", 359)", x.gates(rule, 359), rule == 0 ? 2 : 0);
            CHECK.due("gates(" + rule + ", 360)", x.gates(rule, 360), BAD);
        }
    }

    private static void trainsAndUsersSuchAsThereAre() {
        CHECK.about("9 to 12: TRAINS, USERS such as there are; BAD");
        for (int many = 1; many <= 6; many++) {
            FourTenGates x = Check.laid("t59,2;".repeat(many) + "u0,2;".repeat(many + 2) + "c0;k0,60;");
            for (int i = -1; i <= 8; i++) {
                boolean train = i >= 0 && i < many;
                boolean user = i >= 0 && i < many + 2;
                CHECK.due(many + ": passed(0, " + i + ")", x.passed(0, i), train ? i < 2 ? 354 + 3 * i : NONE : BAD);
                CHECK.due(many + ": stopped(0, " + i + ")", x.stopped(0, i), train ? Math.min(3 * i, 6) : BAD);
                CHECK.due(many + ": crossed(0, " + i + ")", x.crossed(0, i), user ? NONE : BAD);
                CHECK.due(many + ": waited(0, " + i + ")", x.waited(0, i), user ? 60 : BAD);
            }
        }
        CHECK.due("crossed(0, 0) without USERS", Check.laid("t1,0;").crossed(0, 0), BAD);
        CHECK.due("waited(0, 0) without USERS", Check.laid("t1,0;").waited(0, 0), BAD);
    }
}
