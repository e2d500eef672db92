import java.io.IOException;
import java.lang.reflect.Constructor;
import java.lang.reflect.Field;
import java.lang.reflect.Member;
import java.lang.reflect.Method;
import java.lang.reflect.Modifier;
import java.nio.file.Files;
import java.nio.file.Path;
import java.util.ArrayList;
import java.util.Arrays;
import java.util.List;
import java.util.Set;
import java.util.TreeSet;
import java.util.regex.Matcher;
import java.util.regex.Pattern;
import java.util.stream.Collectors;

/** The face is the document's, and the program keeps to those rules of LANGUAGE.md that can be read off its text. */
public final class FaceTests {
    private static final Path DOCUMENT = Path.of("../shared/DOC.md");
    private static final Path PROGRAM = Path.of("src/main/java/HeapBrowser.java");
    private static int wrong = 0;

    private static void due(boolean right, String what) {
        if (!right) {
            wrong++;
            System.out.println(what);
        }
    }

    private static boolean open(Member member) {
        return !Modifier.isPrivate(member.getModifiers()) && !member.isSynthetic();
    }

    /** The signatures in the code block under "The public face", as they stand there. */
    private static Set<String> documented() throws IOException {
        String text = Files.readString(DOCUMENT);
        String face = text.substring(text.indexOf("public final class HeapBrowser {"));
        Set<String> lines = new TreeSet<>();
        for (String line : face.substring(0, face.indexOf("```")).split("\n")) {
            if (line.startsWith("    public ")) {
                lines.add(line.trim().replaceAll("(int|boolean) \\w+(?=[,)])", "$1"));
            }
        }
        return lines;
    }

    private static String types(Class<?>[] types) {
        return Arrays.stream(types).map(Class::getSimpleName).collect(Collectors.joining(", "));
    }

    private static String thrown(Class<?>[] types) {
        return types.length == 0 ? ";" : " throws " + types(types) + ";";
    }

    private static Set<String> declared() throws IllegalAccessException {
        Set<String> lines = new TreeSet<>();
        for (Field field : HeapBrowser.class.getDeclaredFields()) {
            if (open(field)) {
                lines.add(Modifier.toString(field.getModifiers()) + " int " + field.getName() + " = " + field.getInt(null) + ";");
            }
        }
        for (Constructor<?> constructor : HeapBrowser.class.getDeclaredConstructors()) {
            if (open(constructor)) {
                lines.add(Modifier.toString(constructor.getModifiers()) + " HeapBrowser(" + types(constructor.getParameterTypes()) + ");");
            }
        }
        for (Method method : HeapBrowser.class.getDeclaredMethods()) {
            if (open(method)) {
                lines.add(Modifier.toString(method.getModifiers()) + " " + method.getReturnType().getSimpleName() + " " + method.getName()
                        + "(" + types(method.getParameterTypes()) + ")" + thrown(method.getExceptionTypes()));
            }
        }
        return lines;
    }

    private static void face() throws IOException, IllegalAccessException {
        Set<String> documented = documented();
        due(documented.size() == 48, "the document's face has " + documented.size() + " lines, 48 were expected");
        due(documented.equals(declared()), "the face is not the document's:\n" + documented + "\n" + declared());
        due(Modifier.toString(HeapBrowser.class.getModifiers()).equals("public final"), "the class is not public and final");
    }

    private static void inside() {
        Set<String> names = Arrays.stream(HeapBrowser.class.getDeclaredMethods()).filter(FaceTests::open).map(Method::getName).collect(Collectors.toSet());
        List<Class<?>> all = new ArrayList<>(List.of(HeapBrowser.class.getDeclaredClasses()));
        due(all.size() + 1 <= 12, "more than twelve classes");
        for (Class<?> one : all) {
            due(Modifier.isStatic(one.getModifiers()) && !Modifier.isPublic(one.getModifiers()), one + " is not static, or public");
        }
        all.add(HeapBrowser.class);
        for (Class<?> one : all) {
            int fields = 0;
            for (Field field : one.getDeclaredFields()) {
                boolean constant = Modifier.isStatic(field.getModifiers());
                due(!constant || Modifier.isFinal(field.getModifiers()), field + " is static and not final");
                fields += constant ? 0 : 1;
            }
            due(fields <= 20, one + " has " + fields + " fields");
            for (Method method : one.getDeclaredMethods()) {
                due(one == HeapBrowser.class && open(method) || !names.contains(method.getName()), method + " bears the name of a public one");
                due(method.getParameterCount() <= 7, method + " has more than seven parameters");
            }
        }
    }

    private static void text() throws IOException {
        String program = Files.readString(PROGRAM);
        due(program.chars().allMatch(c -> c == '\n' || c >= 32 && c < 127), "the program has signs beyond ASCII, or tabs");
        String code = program.replaceAll("/\\*[^*]*\\*+(?:[^/*][^*]*\\*+)*/", "").replaceAll("//[^\n]*", "");
        String[] ruledOut = {"->", "::", "\\bfinally\\b", "\\bsynchronized\\b", "\\bassert\\b", "\\bcatch\\b", "\\btry\\b", "\\blambda\\b",
            "Exact\\(", "\\b(?:double|float|Double|Float)\\b", "\\bpackage\\b", "\\bvar\\b", "\\bhashCode\\b", "\\btoString\\b", "\\.equals\\(",
            "\\bObject\\b", "\\bString\\.", "\\bstatic \\{"};
        for (String pattern : ruledOut) {
            due(!Pattern.compile(pattern).matcher(code).find(), "the program has " + pattern);
        }
        onlyThese(code, "\\bimport ([\\w.]+);", Set.of("java.util.Arrays"));
        onlyThese(code, "\\bMath\\.(\\w+)", Set.of("min", "max"));
        onlyThese(code, "\\bLong\\.(\\w+)", Set.of("bitCount"));
        onlyThese(code, "\\bArrays\\.(\\w+)\\(", Set.of("fill"));
        onlyThese(code, "\\bSystem\\.(\\w+)", Set.of("arraycopy"));
        onlyThese(code, "\\bthrow new (\\w+)\\(\\)", Set.of("IndexOutOfBoundsException", "IllegalArgumentException", "IllegalStateException"));
        shortMethods(program);
    }

    private static void onlyThese(String code, String pattern, Set<String> allowed) {
        Matcher matcher = Pattern.compile(pattern).matcher(code);
        while (matcher.find()) {
            due(allowed.contains(matcher.group(1)), "the program uses " + matcher.group());
        }
    }

    private static void shortMethods(String program) {
        String[] lines = program.split("\n");
        int start = 0;
        String end = "";
        for (int i = 0; i < lines.length; i++) {
            Matcher head = Pattern.compile("^( {4}| {8})(?! )(?!.*\\bclass\\b)[^=]*\\(.*\\{$|^( {4}| {8})(?! )[^=]*\\($").matcher(lines[i]);
            if (head.find()) {
                start = i;
                end = (head.group(1) != null ? head.group(1) : head.group(2)) + "}";
            } else if (lines[i].equals(end)) {
                due(i - start <= 60, "the method at line " + (start + 1) + " has " + (i - start) + " lines");
            }
        }
    }

    public static void main(String[] args) throws IOException, IllegalAccessException {
        face();
        inside();
        text();
        System.out.println(wrong == 0 ? "the face and the language are as due" : wrong + " things are not as due");
        if (wrong != 0) {
            System.exit(1);
        }
    }
}
