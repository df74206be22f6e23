/** The edges of "What it is", of LAID, and of promises 1 to 7. */
final class CrossingsEdgesTest {
    private static final Check CHECK = new Check("CrossingsEdgesTest");
    private static final int BAD = FourTenGates.BAD, NO = FourTenGates.NO;
    private static final int FULL = FourTenGates.FULL, NONE = FourTenGates.NONE;
    private static final String AT_FIRST = "t10,0;t13,1;t30,2;t41,0;u8,0;u9,1;u12,2;u29,3;u31,0;u40,0;"
        + "g4;c20;a60,30;k6,14;k29,32;k38,43;o0,5;o2,3;o5,2;";

    public static void main(String[] args) {
        newIsAsTold();
        lettersFrom32To126();
        lettersUpTo200();
        wipeOfEmptyAndFull();
        everyNumberOfEveryItem();
        everyLetterAhead();
        oneOrTwoFigures();
        cutAnywhere();
        asManyAsThereCanBe();
        faultIsTheFirst();
        withoutItems();
        lastOneCounts();
        lastOneOfEachSort();
        layNeedsATrain();
        layNeedsTenTenths();
        layRefusedChangesNothing();
        layBeginsAnew();
        trainsSuchAsThereAre();
        bells();
        usersSuchAsThereAre();
        CHECK.end();
    }

    private static void newIsAsTold() {
        CHECK.about("1: as told; THE TEXT is empty");
        FourTenGates told = Check.laid(AT_FIRST);
        CHECK.due("wipe()", told.wipe(), AT_FIRST.length());
        FourTenGates x = new FourTenGates();
        CHECK.due("count(6)", x.count(6), 0);
        CHECK.due("fault()", x.fault(), NONE);
        Twins.tellAlike(CHECK, "a new one", x, told);
        int[] none = {3, 4, 5, 6};
        for (int what : none) {
            CHECK.due("new: count(" + what + ")", new FourTenGates().count(what), 0);
        }
    }

    private static void lettersFrom32To126() {
        CHECK.about("2: a letter (32 to 126, as in ASCII)");
        int length = 0;
        FourTenGates x = new FourTenGates();
        for (int letter = -2; letter <= 260; letter++) {
            boolean right = letter >= 32 && letter <= 126;
            length += right ? 1 : 0;
            CHECK.due("write(" + letter + ")", x.write(letter), right ? length : BAD);
        }
        CHECK.due("count(6)", x.count(6), 95);
        int[] wrong = {31, 127, -1, 0, Integer.MIN_VALUE, Integer.MAX_VALUE, 116 + 256, 116 + 65536};
        for (int letter : wrong) {
            Twins.changesNothing(CHECK, "write(" + letter + ")", y -> Check.write(y, "t1,"), y -> y.write(letter), BAD);
        }
    }

    private static void lettersUpTo200() {
        CHECK.about("2: 200 at most; FULL");
        String most = "t1,0;" + "g1;".repeat(65);
        FourTenGates x = new FourTenGates();
        for (int k = 0; k < most.length(); k++) {
            CHECK.due("write, letter " + (k + 1), x.write(most.charAt(k)), k + 1);
        }
        CHECK.due("write, letter 201", x.write(';'), FULL);
        CHECK.due("fault() of 200 letters", x.fault(), NONE);
        CHECK.due("lay() of 200 letters", x.lay(), 1);
        Twins.changesNothing(CHECK, "write, letter 201", y -> Check.write(y, most), y -> y.write('t'), FULL);
        Twins.changesNothing(CHECK, "write(127), letter 201", y -> Check.write(y, most), y -> y.write(127), BAD);
        Twins.changesNothing(CHECK, "write(31), letter 201", y -> Check.write(y, most), y -> y.write(31), BAD);
        CHECK.due("fault() in the last of 200 letters", Check.written("t1,0;" + "g1;".repeat(64) + "g1:").fault(), 197);
        CHECK.due("fault() of a cut item at 200 letters", Check.written("g1;".repeat(66) + "t1").fault(), 198);
    }

    private static void wipeOfEmptyAndFull() {
        CHECK.about("3: THE TEXT is empty: how long it was");
        FourTenGates x = new FourTenGates();
        CHECK.due("wipe() of none", x.wipe(), 0);
        x.write('t');
        CHECK.due("wipe() of one", x.wipe(), 1);
        Check.write(x, "x".repeat(200));
        CHECK.due("wipe() of 200", x.wipe(), 200);
        CHECK.due("count(6)", x.count(6), 0);
        CHECK.due("fault()", x.fault(), NONE);
        CHECK.due("write behind", x.write('t'), 1);
        CHECK.due("count(0), the hour stays", x.count(0), 4);
    }

    /** Asks for the fault of many texts, none of them by an object of more than 512 calls. */
    private static final class Reader {
        private FourTenGates x = new FourTenGates();
        private int calls = 0;

        int fault(String text) {
            if (calls + text.length() + 2 > 512) {
                x = new FourTenGates();
                calls = 0;
            }
            calls += text.length() + 2;
            Check.write(x, text);
            int answer = x.fault();
            x.wipe();
            return answer;
        }
    }

    private static boolean isRight(char letter, int a, int b) {
        switch (letter) {
            case 't': return a <= 59 && b <= 2;
            case 'u': return a <= 59 && b <= 3;
            case 'w': return a <= 3 && b <= 9;
            case 'a': return a >= 1;
            case 'k': return b <= 60 && a < b;
            default: return a <= 9 && b <= 10;
        }
    }

    private static void everyNumberOfEveryItem() {
        CHECK.about("4: minutes, KINDS, SORTS, B, T, V, P, R, A, D as told");
        Reader reader = new Reader();
        for (char letter : "tuwako".toCharArray()) {
            for (int a = 0; a < 100; a++) {
                for (int b = 0; b < 100; b++) {
                    String item = letter + "" + a + "," + b + ";";
                    CHECK.due("fault() of " + item, reader.fault(item), isRight(letter, a, b) ? NONE : 0);
                }
            }
        }
        for (int a = 0; a < 100; a++) {
            CHECK.due("fault() of g" + a + ";", reader.fault("g" + a + ";"), a >= 1 && a <= 9 ? NONE : 0);
            CHECK.due("fault() of c" + a + ";", reader.fault("c" + a + ";"), NONE);
        }
    }

    private static void everyLetterAhead() {
        CHECK.about("4: each a letter, t u g c w a k o");
        Reader reader = new Reader();
        for (char letter = 32; letter <= 126; letter++) {
            CHECK.due("fault() of " + letter + "1,2;", reader.fault("g1;" + letter + "1,2;"), "tuwako".indexOf(letter) >= 0 ? NONE : 3);
            CHECK.due("fault() of " + letter + "1;", reader.fault("g1;" + letter + "1;"), "gc".indexOf(letter) >= 0 ? NONE : 3);
        }
    }

    private static void oneOrTwoFigures() {
        CHECK.about("4: numbers (one or two figures)");
        Reader reader = new Reader();
        String[] right = {"t1,1;", "t01,1;", "t1,01;", "t01,01;", "t00,00;", "g1;", "g09;", "c00;", "a01,00;"};
        String[] wrong = {"t001,1;", "t1,001;", "t,1;", "t1,;", "g;", "g009;", "c;", "c000;", "c100;", "a100,1;", "a1,100;",
            "t1,1,1;", "t1;", "t;", "g1,1;", "c1,1;", "t1,1", "t1 1;", "t1.1;", "t1;1;", "t-1,1;", "t1,-1;", "t+1,1;", "t 1,1;",
            "t1, 1;", "t1,1 ;", "t:,1;", "t/,1;", "t1,:;", "t1,/;", "t1:,1;", "t1/,1;", "t1,1:", "t1,1,;", "t1,,1;", "ta,1;"};
        for (String item : right) {
            CHECK.due("fault() of " + item, reader.fault(item), NONE);
        }
        for (String item : wrong) {
            CHECK.due("fault() of " + item, reader.fault(item), 0);
            CHECK.due("fault() of g4;" + item, reader.fault("g4;" + item), 3);
        }
    }

    private static void cutAnywhere() {
        CHECK.about("4: ITEMS one behind the other, a ; behind the last one");
        Reader reader = new Reader();
        int begins = 0;
        for (int length = 0; length <= AT_FIRST.length(); length++) {
            String text = AT_FIRST.substring(0, length);
            if (text.endsWith(";")) {
                begins = length;
            }
            CHECK.due("fault() of " + text, reader.fault(text), begins == length ? NONE : begins);
        }
        CHECK.due("fault() of ; alone", reader.fault(";"), 0);
        CHECK.due("fault() of two ;", reader.fault("t1,1;;"), 5);
        CHECK.due("fault() of a blank between", reader.fault("t1,1; t2,1;"), 5);
        CHECK.due("fault() of a , between", reader.fault("t1,1;,t2,1;"), 5);
    }

    private static void asManyAsThereCanBe() {
        CHECK.about("4: 6 TRAINS, 8 USERS, 6 CLOSINGS, 5 odds at most");
        String most = "t1,0;".repeat(6) + "u1,0;".repeat(8) + "k1,2;".repeat(6) + "o1,2;".repeat(5);
        CHECK.due("fault() of all", Check.written(most).fault(), NONE);
        FourTenGates x = Check.laid(most);
        CHECK.due("count(0)", x.count(0), 6);
        CHECK.due("count(1)", x.count(1), 8);
        CHECK.due("count(2)", x.count(2), 6);
        CHECK.due("mean(0, 5, 1), odds that are told", x.mean(0, 5, 1) > 0 ? 1 : 0, 1);
        String[] more = {"t1,0;", "u1,0;", "k1,2;", "o1,0;"};
        for (String item : more) {
            CHECK.due("fault() of one more " + item, Check.written(most + item).fault(), most.length());
            CHECK.due("lay() of one more " + item, Check.written(most + item).lay(), NO);
            CHECK.due("fault() of one more, in front " + item, Check.written(item + most).fault(), mostBehind(item));
        }
        String[] asOften = {"g1;", "c1;", "w1,1;", "a1,1;"};
        for (String item : asOften) {
            CHECK.due("fault() of many " + item, Check.written(most + item.repeat(14)).fault(), NONE);
        }
    }

    /** Where the last of its like stands, with one of them in front of as many as there can be. */
    private static int mostBehind(String item) {
        int[] lasts = {5 + 5 * 5, 5 + 5 * 13, 5 + 5 * 19, 5 + 5 * 24};
        return lasts["tuko".indexOf(item.charAt(0))];
    }

    private static void faultIsTheFirst() {
        CHECK.about("4: FAULT: the place of the first letter of the first ITEM that is not so; NONE");
        CHECK.due("of none", Check.written("").fault(), NONE);
        CHECK.due("at 0", Check.written("t60,0;t1,0;").fault(), 0);
        CHECK.due("at 5, of two", Check.written("t1,0;g0;g10;").fault(), 5);
        CHECK.due("at 195", Check.written("a1,1;".repeat(39) + "a0,1;").fault(), 195);
        CHECK.due("at 199", Check.written("t1,0;".repeat(2) + "g1;".repeat(63) + "g").fault(), 199);
        // how much all P are together is a matter of lay, as LAID tells it apart from FAULT
        CHECK.due("of P under 10", Check.written("t1,0;o0,9;").fault(), NONE);
        CHECK.due("of P above 10", Check.written("t1,0;o0,10;o1,1;").fault(), NONE);
        String[] texts = {"", "t1,0;", "t1,0;x", "t60,0;"};
        int[] faults = {NONE, NONE, 5, 0};
        for (int k = 0; k < texts.length; k++) {
            String text = texts[k];
            Twins.changesNothing(CHECK, "fault() of " + text, CrossingsEdgesTest::muchHasBeen, y -> y.fault(), NONE);
            Twins.changesNothing(CHECK, "fault() of " + text, y -> muchAndText(y, text), y -> y.fault(), faults[k]);
        }
    }

    private static void withoutItems() {
        CHECK.about("5: 4 without; 20 without; 1 without, of DOCTORS 5; 60, 30 without");
        int[] each = {1, 1, 5, 1};
        for (int sort = 0; sort < 4; sort++) {
            FourTenGates x = Check.laid("t0,2;u1," + sort + ";k0,60;");
            CHECK.due("SORT " + sort + ": cost(0)", x.cost(0), 4 * 20 + 60 * each[sort] + 30);
            CHECK.due("SORT " + sort + ": waited(0, 0)", x.waited(0, 0), 60);
            CHECK.due("SORT " + sort + ": stopped(0, 0)", x.stopped(0, 0), 4);
        }
        // what one text told is not left over for the next that does without
        FourTenGates y = Check.laid("t0,2;g9;c99;w0,9;w1,9;w2,9;w3,9;a1,99;o0,10;k1,2;");
        y.wipe();
        Check.write(y, "t0,2;u1,0;k0,60;");
        CHECK.due("lay() of a text without", y.lay(), 1);
        CHECK.due("a text without: cost(0)", y.cost(0), 4 * 20 + 60 + 30);
        CHECK.due("a text without: stopped(0, 0)", y.stopped(0, 0), 4);
        CHECK.due("a text without: mean(0, 0, 0)", y.mean(0, 0, 0), NONE);
    }

    private static void lastOneCounts() {
        CHECK.about("5: of several the last one counts");
        // the train is stopped as long as gates move, the cart waits for as long as it can
        String hour = "t0,2;u1,0;k0,60;";
        int[][] due = {{1, 0, 1, 0}, {9, 99, 99, 99}, {4, 20, 60, 30}, {2, 3, 5, 0}};
        for (int[] first : due) {
            for (int[] last : due) {
                String items = "g" + first[0] + ";c" + first[1] + ";a" + first[2] + "," + first[3] + ";"
                    + "g" + last[0] + ";c" + last[1] + ";a" + last[2] + "," + last[3] + ";";
                FourTenGates x = Check.laid(items + hour);
                CHECK.due(items + " cost(0)", x.cost(0), last[0] * last[1] + last[2] + last[3]);
                CHECK.due(items + " stopped(0, 0)", x.stopped(0, 0), last[0]);
                CHECK.due(items + " waited(0, 0)", x.waited(0, 0), last[2]);
            }
        }
    }

    private static void lastOneOfEachSort() {
        CHECK.about("5: wS,V (0 to 9), the last one of each");
        for (int sort = 0; sort < 4; sort++) {
            String hour = "t0,2;c0;u1," + sort + ";k0,60;a10,0;";
            int without = sort == 2 ? 5 : 1;
            String others = "w" + (sort + 1) % 4 + ",7;w" + (sort + 2) % 4 + ",7;w" + (sort + 3) % 4 + ",7;";
            CHECK.due("w of other SORTS: cost(0)", Check.laid(hour + others).cost(0), 10 * without);
            CHECK.due("w of 0, then 9", Check.laid(hour + "w" + sort + ",0;w" + sort + ",9;" + others).cost(0), 90);
            CHECK.due("w of 9, then 0", Check.laid(hour + "w" + sort + ",9;" + others + "w" + sort + ",0;").cost(0), 0);
        }
    }

    private static void layNeedsATrain() {
        CHECK.about("5: LAID is a TEXT without FAULT, of a TRAIN at least");
        String[] texts = {"", "u1,0;", "g4;c20;a60,30;k6,14;o0,10;", "u1,0;o0,10;", "t60,0;", "t1,0;t1", "t1,0; "};
        for (String text : texts) {
            CHECK.due("lay() of " + text, Check.written(text).lay(), NO);
        }
        for (int trains = 1; trains <= 6; trains++) {
            CHECK.due("lay() of " + trains, Check.written("t1,0;".repeat(trains)).lay(), trains);
        }
    }

    private static void layNeedsTenTenths() {
        CHECK.about("5: with all P together 10 or none told (NO else)");
        for (int a = 0; a <= 10; a++) {
            for (int b = 0; b <= 10; b++) {
                String text = "t1,0;o3," + a + ";o4," + b + ";";
                CHECK.due("lay() of " + text, Check.written(text).lay(), a + b == 10 ? 1 : NO);
            }
            CHECK.due("lay() of one P " + a, Check.written("t1,0;o3," + a + ";").lay(), a == 10 ? 1 : NO);
        }
        CHECK.due("lay(), none told", Check.written("t1,0;").lay(), 1);
        CHECK.due("lay(), five of 2", Check.written("t1,0;" + "o1,2;".repeat(5)).lay(), 1);
        CHECK.due("lay(), four of 2", Check.written("t1,0;" + "o1,2;".repeat(4)).lay(), NO);
        CHECK.due("lay(), five of 2 and more", Check.written("t1,0;" + "o1,2;".repeat(4) + "o1,3;").lay(), NO);
        CHECK.due("lay(), 20 together", Check.written("t1,0;o0,10;o1,10;").lay(), NO);
    }

    /** Late trains, closings told and left out, some of it kept, some seen: all that a wrong call could spoil. */
    private static void muchHasBeen(FourTenGates x) {
        x.late(0, 7);
        x.shut(50, 51);
        x.keep();
        x.late(3, 30);
        x.leave(1);
        x.seen(40, 2);
        x.seen(0, 0);
    }

    private static void muchAndText(FourTenGates x, String text) {
        muchHasBeen(x);
        Check.write(x, text);
    }

    private static void layRefusedChangesNothing() {
        CHECK.about("5: NO; nothing changes then");
        String[] texts = {"", "u1,0;", "t1,0;g9;c1;w0,9;a1,1;o0,9;", "t1,0;k1,2;u1,1;t60,0;", "t5,1;t6,1;t7,1;t8,1;t9,1;x",
            "t1,0;o0,10;o1,1;"};
        for (String text : texts) {
            Twins.changesNothing(CHECK, "lay() of " + text, y -> muchAndText(y, text), y -> y.lay(), NO);
        }
    }

    private static void layBeginsAnew() {
        CHECK.about("5: none late, nothing SEEN, UNDONE, KEPT (THE TEXT stays)");
        String text = "t10,0;t13,1;u8,0;k6,14;o0,10;";
        FourTenGates x = new FourTenGates();
        muchHasBeen(x);
        Check.write(x, text);
        // asked ahead, so that an answer that is left over would show
        CHECK.due("cheapest(1) ahead", x.cheapest(1), Math.min(Math.min(x.cost(0), x.cost(1)), Math.min(x.cost(2), x.cost(3))));
        CHECK.due("lead(0) ahead", x.lead(0) >= 0 ? 1 : 0, 1);
        CHECK.due("lay()", x.lay(), 2);
        int[] counts = {2, 1, 1, 0, 0, 0, text.length()};
        for (int what = 0; what < counts.length; what++) {
            CHECK.due("count(" + what + ")", x.count(what), counts[what]);
        }
        Twins.tellAlike(CHECK, "laid behind much", x, Check.laid(text));
        FourTenGates full = Check.laid("t1,0;");
        for (int k = 0; k < 9; k++) {
            full.late(0, k);
            full.seen(k, 0);
            full.keep();
        }
        CHECK.due("lay() of what is laid", full.lay(), 1);
        Twins.tellAlike(CHECK, "laid again, all having been full", full, Check.laid("t1,0;"));
    }

    private static void trainsSuchAsThereAre() {
        CHECK.about("6: TRAINS such as there are; what 0 to 3; BAD");
        for (int trains = 1; trains <= 6; trains++) {
            FourTenGates x = Check.laid("t59,1;".repeat(trains));
            for (int i = -1; i <= 7; i++) {
                CHECK.due(trains + ": train(" + i + ", 0)", x.train(i, 0), i >= 0 && i < trains ? 59 : BAD);
                CHECK.due(trains + ": train(" + i + ", 2)", x.train(i, 2), i >= 0 && i < trains ? 0 : BAD);
            }
        }
        int[] due = {13, 1, 0, 42};
        for (int what = -1; what <= 4; what++) {
            CHECK.due("train(1, " + what + ")", new FourTenGates().train(1, what), what >= 0 && what < 4 ? due[what] : BAD);
        }
        CHECK.due("train of GOODS, what 4, BAD ahead of NONE", new FourTenGates().train(2, 4), BAD);
        CHECK.due("train(min, 0)", new FourTenGates().train(Integer.MIN_VALUE, 0), BAD);
        CHECK.due("train(max, 3)", new FourTenGates().train(Integer.MAX_VALUE, 3), BAD);
        CHECK.due("train(0, min)", new FourTenGates().train(0, Integer.MIN_VALUE), BAD);
        CHECK.due("train(0, max)", new FourTenGates().train(0, Integer.MAX_VALUE), BAD);
    }

    private static void bells() {
        CHECK.about("6: 66 BEATS ahead, 36 ahead, from BEAT 0 on at the earliest, of GOODS never; NONE: not in the hour");
        int[] ahead = {66, 36};
        for (int minute = 0; minute < 60; minute++) {
            FourTenGates x = Check.laid("t" + minute + ",0;t" + minute + ",1;t" + minute + ",2;");
            for (int late = 0; late <= 30; late += 5) {
                for (int kind = 0; kind < 2; kind++) {
                    int bell = Math.max(0, 6 * (minute + late) - ahead[kind]);
                    x.late(kind, late);
                    CHECK.due("minute " + minute + ", late " + late + ": train(" + kind + ", 3)", x.train(kind, 3), bell < 360 ? bell : NONE);
                }
                x.late(2, late);
                CHECK.due("minute " + minute + ", late " + late + ": train(2, 3)", x.train(2, 3), NONE);
            }
        }
        FourTenGates last = Check.laid("t59,0;t59,1;");
        int[][] due = {{0, 11, 354}, {0, 12, NONE}, {0, 30, NONE}, {1, 6, 354}, {1, 7, NONE}, {1, 30, NONE}};
        for (int[] d : due) {
            last.late(d[0], d[1]);
            CHECK.due("late(" + d[0] + ", " + d[1] + "), train(" + d[0] + ", 3)", last.train(d[0], 3), d[2]);
        }
    }

    private static void usersSuchAsThereAre() {
        CHECK.about("7: USERS such as there are; what 0, 1; BAD");
        for (int users = 0; users <= 8; users++) {
            FourTenGates x = Check.laid("t1,0;" + "u59,3;".repeat(users));
            for (int i = -1; i <= 9; i++) {
                CHECK.due(users + ": user(" + i + ", 0)", x.user(i, 0), i >= 0 && i < users ? 59 : BAD);
                CHECK.due(users + ": user(" + i + ", 1)", x.user(i, 1), i >= 0 && i < users ? 3 : BAD);
            }
        }
        int[] wrong = {-1, 2, Integer.MIN_VALUE, Integer.MAX_VALUE};
        for (int what : wrong) {
            CHECK.due("user(0, " + what + ")", new FourTenGates().user(0, what), BAD);
            CHECK.due("user(" + what + ", 0) of two", Check.laid("t1,0;u1,0;u1,0;").user(what, 0), BAD);
        }
    }
}
