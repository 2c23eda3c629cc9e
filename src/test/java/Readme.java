import java.io.IOException;
import java.lang.reflect.Field;
import java.lang.reflect.Method;
import java.lang.reflect.Modifier;
import java.nio.file.DirectoryStream;
import java.nio.file.Files;
import java.nio.file.Path;
import java.util.ArrayList;
import java.util.List;
import java.util.Set;
import java.util.TreeSet;
import java.util.regex.Matcher;
import java.util.regex.Pattern;
import javax.tools.ToolProvider;

/** README.md: that it says how to use the class and how to run its tests, and that what it says is so. */
public final class Readme extends Checks {
    private static final String EXAMPLE = "ReadmeExample";
    private static final Pattern ANSWERED = Pattern.compile("(.*?)(store\\.\\w+\\(.*?\\));\\s*// ([^:\\s]+)(:.*)?");
    private static final Pattern LISTED = Pattern.compile("(?m)^- `(\\w+)`:");

    private static String text = "";

    /** What stands under a heading, as far as the next one. */
    private static String under(String heading) {
        int from = text.indexOf("\n## " + heading + "\n");
        due("there is a chapter " + heading, from >= 0, true);
        if (from < 0) {
            return "";
        }
        int to = text.indexOf("\n## ", from + 1);
        return text.substring(from, to < 0 ? text.length() : to);
    }

    private static List<String> blocks(String chapter, String language) {
        List<String> found = new ArrayList<>();
        Matcher m = Pattern.compile("(?s)\n```" + language + "\n(.*?)\n```\n").matcher(chapter);
        while (m.find()) {
            found.add(m.group(1));
        }
        return found;
    }

    private static void namesTheFace(String use) {
        for (Method m : OnceStore.class.getDeclaredMethods()) {
            if (Modifier.isPublic(m.getModifiers())) {
                Pattern row = Pattern.compile("(?m)^\\| `" + m.getName() + "\\(([^)]*)\\)` \\|.*\\|.*\\|$");
                Matcher found = row.matcher(use);
                boolean is = found.find();
                due("a row tells of " + m.getName(), is, true);
                String arguments = is ? found.group(1) : "";
                int count = arguments.isEmpty() ? 0 : arguments.split(",").length;
                due("arguments of " + m.getName(), count, m.getParameterCount());
            }
        }
        for (Field f : OnceStore.class.getDeclaredFields()) {
            if (Modifier.isPublic(f.getModifiers())) {
                due("it names " + f.getName(), use.contains("`" + f.getName() + "`"), true);
            }
        }
        due("it names the source", use.contains("`src/main/java/OnceStore.java`"), true);
    }

    private static void namesTheTests(String tests) throws IOException {
        due("it names the script", blocks(tests, "sh").contains(".ci/run"), true);
        due("the script can be run", Files.isExecutable(Path.of(".ci/run")), true);
        due("it names the shared tests", tests.contains("`../shared/tests`"), true);
        Set<String> there = new TreeSet<>();
        try (DirectoryStream<Path> files = Files.newDirectoryStream(Path.of("src/test/java"), "*.java")) {
            for (Path file : files) {
                there.add(file.getFileName().toString().replace(".java", ""));
            }
        }
        Set<String> listed = new TreeSet<>();
        Matcher m = LISTED.matcher(tests);
        while (m.find()) {
            listed.add(m.group(1));
        }
        due("listed are " + listed + ", there are " + there, listed.equals(there), true);
    }

    /** A line of an example, with its answer held against the one that its comment tells. */
    private static String held(String line) {
        Matcher m = ANSWERED.matcher(line);
        if (!m.matches()) {
            due("an answer is told: " + line, line.startsWith("OnceStore store = "), true);
            return line;
        }
        String call = m.group(2);
        String got = m.group(1).isEmpty() ? call : m.group(1).replaceAll("int (\\w+) = ", "$1");
        String first = m.group(1).isEmpty() ? "" : m.group(1) + call + "; ";
        return first + "due(\"" + call + "\", " + got + ", " + m.group(3) + ");";
    }

    private static String program(List<String> examples) {
        StringBuilder code = new StringBuilder("public final class " + EXAMPLE + " extends Checks {\n");
        code.append("public static void main(String[] args) {\n");
        for (String example : examples) {
            code.append("{\n");
            for (String line : example.split("\n")) {
                code.append(held(line)).append('\n');
            }
            code.append("}\n");
        }
        return code.append("}\n}\n").toString();
    }

    private static void runExamples(List<String> examples) throws Exception {
        due("there are examples", !examples.isEmpty(), true);
        // Beside the other classes, where the example may lean on Checks.
        Path classes = Path.of(Readme.class.getProtectionDomain().getCodeSource().getLocation().toURI());
        Path source = classes.resolve(EXAMPLE + ".java");
        Files.writeString(source, program(examples));
        String at = classes.toString();
        int failed = ToolProvider.getSystemJavaCompiler().run(null, null, null, "-cp", at, "-d", at, source.toString());
        due("the examples compile", failed, 0);
        if (failed == 0) {
            Class.forName(EXAMPLE).getMethod("main", String[].class).invoke(null, (Object) new String[0]);
        }
    }

    public static void main(String[] args) throws Exception {
        at("README.md");
        Path readme = Path.of("README.md");
        due("it is there", Files.isRegularFile(readme), true);
        if (Files.isRegularFile(readme)) {
            text = Files.readString(readme);
            String use = under("Use");
            namesTheFace(use);
            runExamples(blocks(use, "java"));
            namesTheTests(under("Tests"));
        }
        tellAndExit();
    }
}
