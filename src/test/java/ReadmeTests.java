import java.io.IOException;
import java.lang.reflect.InvocationTargetException;
import java.lang.reflect.Method;
import java.lang.reflect.Modifier;
import java.net.URL;
import java.net.URLClassLoader;
import java.nio.file.Files;
import java.nio.file.Path;
import java.util.ArrayList;
import java.util.List;
import java.util.Set;
import java.util.TreeSet;
import java.util.concurrent.Callable;
import java.util.regex.Matcher;
import java.util.regex.Pattern;
import java.util.stream.Stream;
import javax.tools.JavaCompiler;
import javax.tools.ToolProvider;

/**
 * Makes one class of the Java lines that README.md shows, compiles it, runs it, and compares what each line answers with
 * what README.md says behind it.
 */
public final class ReadmeTests {
    private static final Path README = Path.of("README.md");
    private static final String SHOWN = "ReadmeUse";
    // "statement; // answer", or "statement; // answer: words on it"
    private static final Pattern ANSWERED = Pattern.compile("^(\\S.*);\\s+// (.+?)(?:: .*)?$");
    private static final Pattern DECLARATION = Pattern.compile("^(?:int|long|float|double|boolean) (\\w+) = .*$");
    private static final Pattern CALL = Pattern.compile("\\bheap\\.(\\w+)\\(");

    private static int wrong = 0;
    private static int answers = 0;

    private static void due(boolean right, String what) {
        if (!right) {
            wrong++;
            System.out.println("README.md" + what);
        }
    }

    /** The class that is made of README.md calls this for each line that has an answer. */
    public static void answers(int line, Callable<Object> call, String said) {
        answers++;
        String got = outcome(call);
        due(got.equals(said), " line " + line + " says " + said + ", the program answers " + got);
    }

    private static String outcome(Callable<Object> call) {
        try {
            return String.valueOf(call.call());
        } catch (Exception e) {
            return "throws " + e.getClass().getSimpleName();
        }
    }

    /** Gathers the Java blocks: one that begins with "static" is a method, the others together are one run. */
    private static final class Shown {
        final StringBuilder methods = new StringBuilder();
        final StringBuilder run = new StringBuilder();
        final Set<String> called = new TreeSet<>();

        Shown(List<String> lines) {
            boolean inside = false;
            boolean method = false;
            for (int i = 0; i < lines.size(); i++) {
                String line = lines.get(i);
                if (line.startsWith("```")) {
                    inside = !inside && line.equals("```java");
                    method = inside && i + 1 < lines.size() && lines.get(i + 1).startsWith("static ");
                } else if (method) {
                    methods.append(line).append('\n');
                } else if (inside) {
                    addLine(i + 1, line);
                }
            }
        }

        private void addLine(int number, String line) {
            Matcher answered = ANSWERED.matcher(line);
            if (!answered.matches()) {
                due(!CALL.matcher(line).find(), " line " + number + " calls and does not say what is answered: " + line);
                run.append(line).append('\n');
                return;
            }
            String statement = answered.group(1);
            Matcher declaration = DECLARATION.matcher(statement);
            boolean declares = declaration.matches();
            run.append(declares ? statement + ";\n" : "");
            String asked = declares ? declaration.group(1) : statement;
            run.append("ReadmeTests.answers(" + number + ", () -> " + asked + ", \"" + answered.group(2) + "\");\n");
            Matcher call = CALL.matcher(statement);
            while (call.find()) {
                called.add(call.group(1));
            }
        }

        String program() {
            return "public final class " + SHOWN + " {\n" + methods + "public static void run() {\n" + run + "}\n}\n";
        }
    }

    private static Set<String> faceMethods() {
        Set<String> names = new TreeSet<>();
        for (Method method : HeapBrowser.class.getDeclaredMethods()) {
            if (Modifier.isPublic(method.getModifiers())) {
                names.add(method.getName());
            }
        }
        return names;
    }

    private static boolean compile(Path work, String program) throws IOException {
        Path source = work.resolve(SHOWN + ".java");
        Files.writeString(source, program);
        JavaCompiler compiler = ToolProvider.getSystemJavaCompiler();
        if (compiler == null) {
            return false;
        }
        String classPath = System.getProperty("java.class.path");
        return compiler.run(null, null, null, "--release", "17", "-cp", classPath, "-d", work.toString(), source.toString()) == 0;
    }

    private static void run(Path work) throws IOException, ReflectiveOperationException {
        try (URLClassLoader loader = new URLClassLoader(new URL[] {work.toUri().toURL()}, ReadmeTests.class.getClassLoader())) {
            loader.loadClass(SHOWN).getMethod("run").invoke(null);
        } catch (InvocationTargetException e) {
            due(false, ": the run of its lines ends with " + e.getCause());
        }
    }

    private static void remove(Path work) throws IOException {
        try (Stream<Path> files = Files.list(work)) {
            for (Path file : files.toList()) {
                Files.delete(file);
            }
        }
        Files.delete(work);
    }

    private static void shownLines(List<String> lines) throws IOException, ReflectiveOperationException {
        Shown shown = new Shown(lines);
        Set<String> missing = faceMethods();
        missing.removeAll(shown.called);
        due(missing.isEmpty(), " shows no answer of " + missing);
        Path work = Files.createTempDirectory("readme");
        boolean compiled = compile(work, shown.program());
        due(compiled, ": its lines of code do not compile");
        if (compiled) {
            run(work);
            due(answers > 0, " shows no line with an answer");
        }
        remove(work);
    }

    /** README.md names every test that .ci/run finds in the project. */
    private static void namedTests(String text) throws IOException {
        List<Path> tests = new ArrayList<>();
        try (Stream<Path> files = Files.list(Path.of("src/test/java"))) {
            files.forEach(tests::add);
        }
        for (Path test : tests) {
            due(text.contains("`" + test + "`"), " does not name " + test);
        }
    }

    public static void main(String[] args) throws IOException, ReflectiveOperationException {
        shownLines(Files.readAllLines(README));
        namedTests(Files.readString(README));
        System.out.println(wrong == 0 ? "the lines of README.md answer what it says (" + answers + " answers)" : wrong + " faults in README.md");
        if (wrong != 0) {
            System.exit(1);
        }
    }
}
