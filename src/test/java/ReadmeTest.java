import java.io.IOException;
import java.io.StringWriter;
import java.lang.reflect.Method;
import java.net.URL;
import java.net.URLClassLoader;
import java.nio.file.Files;
import java.nio.file.Path;
import java.util.ArrayList;
import java.util.List;
import java.util.Set;
import java.util.TreeSet;
import java.util.regex.Matcher;
import java.util.regex.Pattern;
import java.util.stream.Stream;
import javax.tools.JavaCompiler;
import javax.tools.ToolProvider;

/** README.md: each call that it shows answers what it shows, and all that it names is there. */
final class ReadmeTest {
    private static final Check CHECK = new Check("ReadmeTest");
    private static final Pattern BLOCK = Pattern.compile("(?ms)^```java\n(.*?)^```$");
    private static final Pattern SHOWN = Pattern.compile("^(gates\\.(\\w+)\\(.*?\\));\\s+// (-?\\d+|BAD|NO|FULL|NONE)(:.*)?$");
    private static final Pattern NAMED_TEST = Pattern.compile("`(\\w+Test)`");
    private static final Pattern EDGES = Pattern.compile("`(\\w+)`: ([^|]+?) \\|");
    private static final String TESTS = "src/test/java/";

    public static void main(String[] args) throws Exception {
        String readme = Files.readString(Path.of("README.md"));
        CHECK.about("the answers that README.md shows");
        shownAnswers(readme);
        CHECK.about("README.md shows each call of the face");
        shownCalls(readme);
        CHECK.about("the numbers of the answers below 0 in README.md");
        shownMarks(readme);
        CHECK.about("the tests that README.md names");
        namedTests(readme);
        namedEdges(readme);
        CHECK.end();
    }

    private static List<String> codeLines(String readme) {
        List<String> lines = new ArrayList<>();
        Matcher block = BLOCK.matcher(readme);
        while (block.find()) {
            lines.addAll(block.group(1).lines().toList());
        }
        return lines;
    }

    /** The code as the page has it, but that each call whose answer is shown adds itself to a list. */
    private static String program(List<String> lines) {
        StringBuilder code = new StringBuilder("public final class Shown {\npublic static java.util.List<Object[]> answers() {\n"
            + "java.util.List<Object[]> all = new java.util.ArrayList<>();\n");
        for (String line : lines) {
            Matcher shown = SHOWN.matcher(line);
            if (shown.matches()) {
                String want = shown.group(3);
                code.append("all.add(new Object[] {\"").append(shown.group(1).replace("\"", "\\\"")).append("\", ")
                    .append(shown.group(1)).append(", ").append(Character.isLetter(want.charAt(0)) ? "FourTenGates." : "")
                    .append(want).append("});\n");
            } else {
                CHECK.due("a call without an answer: " + line, line.startsWith("gates.") ? 1 : 0, 0);
                code.append(line).append('\n');
            }
        }
        return code.append("return all;\n}\n}\n").toString();
    }

    private static void shownAnswers(String readme) throws Exception {
        Path place = Files.createTempDirectory("shown");
        try {
            Path source = place.resolve("Shown.java");
            Files.writeString(source, program(codeLines(readme)));
            boolean compiled = compile(source, place);
            CHECK.due("the code of README.md compiles", compiled ? 1 : 0, 1);
            if (compiled) {
                compare(place);
            }
        } finally {
            remove(place);
        }
    }

    private static boolean compile(Path source, Path place) throws IOException {
        JavaCompiler compiler = ToolProvider.getSystemJavaCompiler();
        StringWriter said = new StringWriter();
        try (var files = compiler.getStandardFileManager(null, null, null)) {
            List<String> options = List.of("--release", "17", "-cp", System.getProperty("java.class.path"), "-d", place.toString());
            boolean compiled = compiler.getTask(said, files, null, options, null, files.getJavaFileObjects(source)).call();
            System.out.print(said);
            return compiled;
        }
    }

    private static void compare(Path place) throws Exception {
        try (URLClassLoader loader = new URLClassLoader(new URL[] {place.toUri().toURL()})) {
            List<?> answers = (List<?>) loader.loadClass("Shown").getMethod("answers").invoke(null);
            CHECK.due("answers are shown", answers.isEmpty() ? 1 : 0, 0);
            for (Object answer : answers) {
                Object[] row = (Object[]) answer;
                CHECK.due((String) row[0], (Integer) row[1], (Integer) row[2]);
            }
        }
    }

    private static void remove(Path place) throws IOException {
        try (Stream<Path> files = Files.list(place)) {
            for (Path file : files.toList()) {
                Files.delete(file);
            }
        }
        Files.delete(place);
    }

    private static void shownCalls(String readme) {
        Set<String> shown = new TreeSet<>();
        for (String line : codeLines(readme)) {
            Matcher call = SHOWN.matcher(line);
            if (call.matches()) {
                shown.add(call.group(2));
            }
        }
        for (Method m : FourTenGates.class.getDeclaredMethods()) {
            if ((m.getModifiers() & java.lang.reflect.Modifier.PUBLIC) != 0) {
                CHECK.due(m.getName() + " is shown", shown.contains(m.getName()) ? 1 : 0, 1);
            }
        }
    }

    private static void shownMarks(String readme) {
        Object[][] marks = {{"BAD", FourTenGates.BAD}, {"NO", FourTenGates.NO}, {"FULL", FourTenGates.FULL}, {"NONE", FourTenGates.NONE}};
        for (Object[] mark : marks) {
            CHECK.due(mark[0] + " is " + mark[1], readme.contains("| `" + mark[0] + "` | " + mark[1] + " |") ? 1 : 0, 1);
        }
    }

    private static void namedTests(String readme) throws IOException {
        Set<String> named = new TreeSet<>();
        Matcher name = NAMED_TEST.matcher(readme);
        while (name.find()) {
            named.add(name.group(1) + ".java");
        }
        try (Stream<Path> files = Files.list(Path.of(TESTS))) {
            Set<String> there = new TreeSet<>(files.map(f -> f.getFileName().toString()).filter(f -> f.endsWith("Test.java")).toList());
            for (String test : there) {
                CHECK.due(test + " is named", named.contains(test) ? 1 : 0, 1);
            }
            for (String test : named) {
                CHECK.due(test + " is there", there.contains(test) ? 1 : 0, 1);
            }
        }
    }

    /** In the table by promises a name that ends in .. stands for all that begin so. */
    private static void namedEdges(String readme) throws IOException {
        int found = 0;
        Matcher row = EDGES.matcher(readme);
        while (row.find()) {
            Path file = Path.of(TESTS + row.group(1) + ".java");
            String text = Files.exists(file) ? Files.readString(file) : "";
            for (String name : row.group(2).split(", ")) {
                found++;
                String start = name.endsWith("..") ? name.substring(0, name.length() - 2) + "\\w*" : name;
                boolean there = Pattern.compile("(?m)^        " + start + "\\(\\);$").matcher(text).find();
                CHECK.due(row.group(1) + " runs " + name, there ? 1 : 0, 1);
            }
        }
        CHECK.due("the table by promises names tests", found > 50 ? 1 : 0, 1);
    }
}
