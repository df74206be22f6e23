import java.io.IOException;
import java.lang.reflect.Constructor;
import java.lang.reflect.Field;
import java.lang.reflect.Method;
import java.lang.reflect.Modifier;
import java.nio.file.Files;
import java.nio.file.Path;
import java.util.Set;
import java.util.TreeSet;
import java.util.regex.Matcher;
import java.util.regex.Pattern;

/** The public face, told by the document, and what of ../shared/LANGUAGE.md can be read off the file. */
final class FaceTest {
    private static final Check CHECK = new Check("FaceTest");
    private static final String SOURCE = "src/main/java/FourTenGates.java";
    private static final String[] FACE = {"write 1", "wipe 0", "fault 0", "lay 0", "train 2", "user 2", "gates 2",
        "passed 2", "stopped 2", "crossed 2", "waited 2", "cost 1", "late 2", "shut 2", "leave 1", "undo 0", "cheapest 1",
        "lead 1", "more 3", "dinner 2", "byNow 3", "which 1", "seen 2", "forget 0", "fits 0", "bridge 2", "mean 3", "day 3",
        "keep 0", "back 0", "count 1"};
    private static final String[] FORBIDDEN = {"throw", "try", "catch", "synchronized", "assert", "import", "package",
        "\\w*Exact", "->", "::", "hashCode", "toString", "volatile", "transient", "native", "strictfp"};

    public static void main(String[] args) throws IOException {
        constants();
        methods();
        fields();
        insideClasses();
        source(Files.readString(Path.of(SOURCE)));
        CHECK.end();
    }

    private static void constants() {
        CHECK.due("BAD", FourTenGates.BAD, -1);
        CHECK.due("NO", FourTenGates.NO, -2);
        CHECK.due("FULL", FourTenGates.FULL, -3);
        CHECK.due("NONE", FourTenGates.NONE, -4);
    }

    private static Set<String> names() {
        Set<String> names = new TreeSet<>();
        for (String f : FACE) {
            names.add(f.split(" ")[0]);
        }
        return names;
    }

    private static void methods() {
        Set<String> told = new TreeSet<>(Set.of(FACE));
        Set<String> names = names();
        int found = 0;
        for (Method m : FourTenGates.class.getDeclaredMethods()) {
            boolean hidden = Modifier.isPrivate(m.getModifiers());
            if (hidden) {
                CHECK.due("private " + m.getName() + " bears a public name", names.contains(m.getName()) ? 1 : 0, 0);
                continue;
            }
            found++;
            boolean right = Modifier.isPublic(m.getModifiers()) && !Modifier.isStatic(m.getModifiers())
                && m.getReturnType() == int.class && told.contains(m.getName() + " " + m.getParameterCount());
            for (Class<?> type : m.getParameterTypes()) {
                right &= type == int.class;
            }
            CHECK.due("method " + m + " is of the face", right ? 1 : 0, 1);
        }
        CHECK.due("methods of the face", found, FACE.length);
        Constructor<?>[] constructors = FourTenGates.class.getDeclaredConstructors();
        CHECK.due("constructors", constructors.length, 1);
        CHECK.due("the constructor is public", Modifier.isPublic(constructors[0].getModifiers()) ? 1 : 0, 1);
        CHECK.due("what the constructor takes", constructors[0].getParameterCount(), 0);
        CHECK.due("the class is final", Modifier.isFinal(FourTenGates.class.getModifiers()) ? 1 : 0, 1);
        CHECK.due("the class is public", Modifier.isPublic(FourTenGates.class.getModifiers()) ? 1 : 0, 1);
        // what it took over from another class would be visible, too
        CHECK.due("the class is under Object alone", FourTenGates.class.getSuperclass() == Object.class ? 1 : 0, 1);
        CHECK.due("interfaces", FourTenGates.class.getInterfaces().length, 0);
    }

    private static void fields() {
        Set<String> constants = Set.of("BAD", "NO", "FULL", "NONE");
        int visible = 0;
        for (Field f : FourTenGates.class.getDeclaredFields()) {
            if (!Modifier.isPrivate(f.getModifiers())) {
                visible++;
                CHECK.due("field " + f + " is a constant", constants.contains(f.getName()) ? 1 : 0, 1);
                boolean asTold = f.getModifiers() == (Modifier.PUBLIC | Modifier.STATIC | Modifier.FINAL) && f.getType() == int.class;
                CHECK.due("field " + f + " is public static final int", asTold ? 1 : 0, 1);
            }
            if (Modifier.isStatic(f.getModifiers())) {
                CHECK.due("static " + f + " is final", Modifier.isFinal(f.getModifiers()) ? 1 : 0, 1);
            }
        }
        CHECK.due("visible fields", visible, 4);
    }

    private static void insideClasses() {
        Class<?>[] inside = FourTenGates.class.getDeclaredClasses();
        CHECK.due("at most eleven classes inside", inside.length <= 11 ? 1 : 0, 1);
        for (Class<?> c : inside) {
            CHECK.due(c + " is static", Modifier.isStatic(c.getModifiers()) ? 1 : 0, 1);
            CHECK.due(c + " is private or package-visible", c.getModifiers() & (Modifier.PUBLIC | Modifier.PROTECTED), 0);
            CHECK.due(c + " has few fields", c.getDeclaredFields().length <= 20 ? 1 : 0, 1);
            for (Method m : c.getDeclaredMethods()) {
                CHECK.due(m + " has few parameters", m.getParameterCount() <= 7 ? 1 : 0, 1);
                boolean namesake = Modifier.isPrivate(m.getModifiers()) && names().contains(m.getName());
                CHECK.due(m + " is private and bears a public name", namesake ? 1 : 0, 0);
            }
        }
    }

    private static void source(String text) {
        String code = text.replaceAll("(?s)/\\*.*?\\*/", "").replaceAll("//[^\n]*", "").replaceAll("\"[^\"\n]*\"", "\"\"");
        for (String word : FORBIDDEN) {
            boolean letters = Character.isLetter(word.charAt(word.length() - 1));
            Matcher m = Pattern.compile(letters ? "\\b" + word + "\\b" : Pattern.quote(word)).matcher(code);
            CHECK.due("the file has " + word, m.find() ? 1 : 0, 0);
        }
        int other = 0;
        for (int k = 0; k < text.length(); k++) {
            other += text.charAt(k) > 126 ? 1 : 0;
        }
        CHECK.due("signs above 126", other, 0);
        CHECK.due("methods of more than sixty lines", longMethods(text), 0);
        // rows are made in constructors, so that a run of calls makes nothing
        CHECK.due("objects made outside constructors and fields", madeElsewhere(text), 0);
    }

    private static int longMethods(String text) {
        int longOnes = 0;
        Matcher m = Pattern.compile("(?m)^( {4}| {8})(?!private static final class)\\w[^;=\n]*\\) \\{\n(?s:.*?)\n\\1\\}").matcher(text);
        int found = 0;
        while (m.find()) {
            found++;
            longOnes += m.group().lines().count() > 60 ? 1 : 0;
        }
        CHECK.due("methods were found", found > 80 ? 1 : 0, 1);
        return longOnes;
    }

    private static int madeElsewhere(String text) {
        int elsewhere = 0;
        String constructor = "";
        for (String line : text.split("\n")) {
            String inner = line.strip();
            if (inner.matches("(public )?[A-Z]\\w*\\([^;]*\\) \\{")) {
                constructor = line.substring(0, line.indexOf(inner)) + "}";
            } else if (line.equals(constructor)) {
                constructor = "";
            }
            boolean field = inner.matches("(private )?final .* = new .*;");
            elsewhere += inner.contains("new ") && !inner.startsWith("/") && !field && constructor.isEmpty() ? 1 : 0;
        }
        return elsewhere;
    }
}
