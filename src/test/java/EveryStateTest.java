import java.lang.reflect.InvocationTargetException;
import java.lang.reflect.Method;
import java.lang.reflect.Modifier;
import java.util.ArrayList;
import java.util.Comparator;
import java.util.List;
import java.util.Random;

/** What holds whatever was called: no call throws, answers below 0 are the told ones, objects are apart from one another. */
final class EveryStateTest {
    private static final Check CHECK = new Check("EveryStateTest");
    private static final int CALLS = 512, BEHIND = 3000;
    private static final int[] NUMBERS = {Integer.MIN_VALUE, Integer.MIN_VALUE + 1, -65536, -4, -3, -2, -1, 0, 0, 0, 1, 1, 1, 2, 2, 3, 3,
        4, 5, 6, 7, 8, 9, 10, 30, 31, 35, 36, 59, 60, 61, 99, 100, 126, 127, 359, 360, 9999, 10000, 65536, Integer.MAX_VALUE};
    private static final String[] TEXTS = {"t0,0;t59,1;t30,2;u0,0;u0,1;u0,2;u0,3;g9;c99;a1,99;k0,60;o0,10;",
        "t59,0;t59,0;t59,0;t59,0;t59,0;t59,0;u59,0;u59,1;u59,2;g1;k59,60;", "t0,2;c0;", "t1,1;o9,5;o8,5", "x"};

    public static void main(String[] args) throws IllegalAccessException {
        CHECK.about("LANGUAGE 7: no call may ever throw, for any arguments in any state");
        for (int run = 0; run < 60; run++) {
            drawnCalls(new Random(run), new FourTenGates(), CALLS);
        }
        CHECK.about("behind 512 calls an answer is free, but there is one");
        drawnCalls(new Random(4100), new FourTenGates(), CALLS + BEHIND);
        CHECK.about("the same calls always give the same answers, whatever is asked of another object");
        sideBySide();
        CHECK.about("512 of the dearest calls");
        dearest();
        CHECK.end();
    }

    /** In the order of their names: the machine promises none. */
    private static List<Method> face() {
        List<Method> face = new ArrayList<>();
        for (Method m : FourTenGates.class.getDeclaredMethods()) {
            if (Modifier.isPublic(m.getModifiers())) {
                face.add(m);
            }
        }
        face.sort(Comparator.comparing(Method::getName));
        return face;
    }

    private static List<Integer> drawnCalls(Random random, FourTenGates x, int calls) throws IllegalAccessException {
        List<Method> face = face();
        List<Integer> answers = new ArrayList<>();
        for (int k = 0; k < calls; k++) {
            if (random.nextInt(150) == 0) {
                x.wipe();
                Check.write(x, TEXTS[random.nextInt(TEXTS.length)]);
                x.lay();
            }
            Method m = face.get(random.nextInt(face.size()));
            answers.add(drawnCall(random, x, m));
        }
        return answers;
    }

    private static int drawnCall(Random random, FourTenGates x, Method m) throws IllegalAccessException {
        Object[] numbers = new Object[m.getParameterCount()];
        StringBuilder call = new StringBuilder(m.getName());
        for (int k = 0; k < numbers.length; k++) {
            numbers[k] = NUMBERS[random.nextInt(NUMBERS.length)];
            call.append(' ').append(numbers[k]);
        }
        try {
            int answer = (Integer) m.invoke(x, numbers);
            // more is lifted by 99999, and as much can be saved
            boolean told = answer >= FourTenGates.NONE || m.getName().equals("more");
            CHECK.due(call + " answers one of those told: " + answer, told ? 1 : 0, 1);
            return answer;
        } catch (InvocationTargetException e) {
            CHECK.due(call + " threw " + e.getCause(), 1, 0);
            return 0;
        }
    }

    private static void sideBySide() throws IllegalAccessException {
        for (int run = 0; run < 20; run++) {
            List<Integer> alone = drawnCalls(new Random(run), new FourTenGates(), 300);
            FourTenGates one = new FourTenGates();
            FourTenGates other = new FourTenGates();
            Random ones = new Random(run);
            Random others = new Random(run + 1000);
            List<Integer> beside = new ArrayList<>();
            for (int k = 0; k < 300; k++) {
                beside.addAll(drawnCalls(ones, one, 1));
                drawnCalls(others, other, 1);
            }
            CHECK.due("run " + run + " answers as it does alone", alone.equals(beside) ? 1 : 0, 1);
        }
    }

    private static void dearest() {
        FourTenGates x = Check.laid("t0,0;t10,1;t20,2;t30,0;t40,1;t50,2;" + "u5,0;u15,1;u25,2;u35,3;u45,0;u55,1;" + "c0;w0,0;w1,0;w2,0;w3,0;a99,0;");
        // laying was 100 calls or so; each change makes the next LEAD be worked out anew
        for (int k = 0; k < 200; k++) {
            x.late(k % 6, k % 31);
            CHECK.due("lead(1), nothing costs", x.lead(1), 0);
        }
    }
}
