import java.io.File;
import java.io.IOException;
import java.net.URL;
import java.net.URLClassLoader;
import java.nio.file.Files;
import java.nio.file.Path;
import java.util.List;
import java.util.Set;
import java.util.TreeSet;
import java.util.regex.Matcher;
import java.util.regex.Pattern;
import javax.tools.JavaCompiler;
import javax.tools.ToolProvider;

/** What README.md says is so: its examples answer what stands behind them, and its tables name what there is. */
public final class ReadmeTest {
    private static final Pattern CALL = Pattern.compile("\\s*(yard\\..*\\));\\s*// (-?\\d+|BAD|NO|DOWN|FULL|NONE): .*");
    private static final Path TESTS = Path.of("src/test/java");
    /** The examples are loaded apart from Check, so they count by themselves. */
    private static final String DUE = """
            public static int wrong = 0;
            static void due(String call, long got, long want) {
                if (got != want) {
                    wrong++;
                    System.out.println("README.md: " + call + " answered " + got + ", due is " + want);
                }
            }
            """;

    private ReadmeTest() {
    }

    public static void main(String[] args) throws Exception {
        List<String> lines = Files.readAllLines(Path.of("README.md"));
        examples(lines);
        same("test", namedIn(lines, "## Tests"), tests());
        same("class", namedIn(lines, "## Inside"), classes());
        commands(lines);
        Check.end();
    }

    /** Makes a program of the examples, each answer compared with the one that is told behind it. */
    private static void examples(List<String> lines) throws Exception {
        StringBuilder program = new StringBuilder("public final class Examples {\n").append(DUE);
        int examples = 0;
        int answers = 0;
        boolean inside = false;
        for (String line : lines) {
            if (line.equals("```java")) {
                inside = true;
                program.append("public static void example").append(examples).append("() {\n");
                examples++;
            } else if (inside && line.equals("```")) {
                inside = false;
                program.append("}\n");
            } else if (inside) {
                Matcher call = CALL.matcher(line);
                answers += call.matches() ? 1 : 0;
                program.append(call.matches() ? compared(call) : line).append('\n');
            }
        }
        Check.due("whether README.md has examples with answers", examples > 0 && answers > examples ? 1 : 0, 1);
        run(program.append("}\n").toString(), examples);
    }

    private static String compared(Matcher call) {
        String answer = call.group(2);
        String want = Character.isLetter(answer.charAt(0)) ? "ShipYard." + answer : answer + "L";
        return "due(\"" + call.group(1) + "\", " + call.group(1) + ", " + want + ");";
    }

    private static void run(String program, int examples) throws Exception {
        Path out = Files.createTempDirectory("readme");
        try {
            Path source = Files.writeString(out.resolve("Examples.java"), program);
            String made = System.getProperty("java.class.path");
            JavaCompiler compiler = ToolProvider.getSystemJavaCompiler();
            int failed = compiler.run(null, null, null, "-cp", made, "-d", out.toString(), source.toString());
            Check.due("compiling the examples of README.md", failed, 0);
            if (failed == 0) {
                runEach(out, examples);
            }
        } finally {
            remove(out);
        }
    }

    private static void runEach(Path out, int examples) throws Exception {
        try (URLClassLoader loader = new URLClassLoader(new URL[] {out.toUri().toURL()})) {
            Class<?> program = loader.loadClass("Examples");
            for (int i = 0; i < examples; i++) {
                program.getMethod("example" + i).invoke(null);
            }
            Check.due("wrong answers of README.md's examples", program.getField("wrong").getInt(null), 0);
        }
    }

    private static void remove(Path folder) throws IOException {
        for (File file : folder.toFile().listFiles()) {
            Files.delete(file.toPath());
        }
        Files.delete(folder);
    }

    private static void same(String kind, Set<String> named, Set<String> there) {
        Set<String> all = new TreeSet<>(named);
        all.addAll(there);
        for (String name : all) {
            Check.due("whether README.md names the " + kind + " " + name,
                    named.contains(name) ? 1 : 0, there.contains(name) ? 1 : 0);
        }
    }

    /** The names in the first column of a section's table. */
    private static Set<String> namedIn(List<String> lines, String section) {
        Set<String> names = new TreeSet<>();
        boolean inside = false;
        for (String line : lines) {
            inside = line.startsWith("## ") ? line.equals(section) : inside;
            if (inside && line.startsWith("| `")) {
                Matcher name = Pattern.compile("`(\\w+)`").matcher(line.split("\\|")[1]);
                while (name.find()) {
                    names.add(name.group(1));
                }
            }
        }
        return names;
    }

    private static Set<String> tests() {
        Set<String> names = new TreeSet<>();
        for (File file : TESTS.toFile().listFiles()) {
            if (file.getName().endsWith("Test.java")) {
                names.add(file.getName().replace(".java", ""));
            }
        }
        return names;
    }

    private static Set<String> classes() {
        Set<String> names = new TreeSet<>();
        for (Class<?> inner : ShipYard.class.getDeclaredClasses()) {
            names.add(inner.getSimpleName());
        }
        return names;
    }

    /** The files that the commands of README.md name must be there. */
    private static void commands(List<String> lines) {
        int files = 0;
        Pattern path = Pattern.compile("(?<![\\w./])((?:src|\\.ci|\\.\\./shared)/[\\w./]*\\w)");
        for (String line : lines) {
            Matcher file = path.matcher(line);
            while (file.find()) {
                files++;
                Check.due("whether there is " + file.group(1), new File(file.group(1)).exists() ? 1 : 0, 1);
            }
        }
        Check.due("whether README.md names files", files > 0 ? 1 : 0, 1);
    }
}
