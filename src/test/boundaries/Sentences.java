import java.io.IOException;
import java.nio.file.Files;
import java.nio.file.Path;
import java.util.LinkedHashMap;
import java.util.List;
import java.util.Map;
import java.util.regex.Matcher;
import java.util.regex.Pattern;

/**
 * The sentences of the document's terms and promises. A test names the one that it looks at; a name that does not stand
 * in the document is a fault, and so is a sentence that no test names.
 */
final class Sentences {
    interface Test {
        void run(Pair x);
    }

    private static final Pattern PROMISE = Pattern.compile("(?s)\\n## (Promise \\d+: [^\\n]+)\\n(.*?)(?=\\n## )");
    private static final Pattern TERM = Pattern.compile("(?s)\\n\\n([A-Z]{4,})\\. (.*?)(?=\\n\\n[A-Z]{4,}\\. |\\n\\nExamples: )");
    private static final Pattern SIGNATURE = Pattern.compile("(?s)^\\s*`[^`]*`: ");
    // A parameter's line that tells no number, no truth value and not NONE names no case.
    private static final Pattern MERE_NAME = Pattern.compile("(?m)^- `\\w+`: (?![^\\n]*(?:\\d|NONE|true))[^\\n]*$");

    private final Map<String, StringBuilder> unnamed = new LinkedHashMap<>();
    private String place = "";
    private int tests = 0;
    private int wrong = 0;

    Sentences(Path document) throws IOException {
        String text = Files.readString(document);
        Matcher term = TERM.matcher(text);
        while (term.find()) {
            unnamed.put(term.group(1), normal(term.group(2)));
        }
        Matcher promise = PROMISE.matcher(text);
        while (promise.find()) {
            String body = SIGNATURE.matcher(promise.group(2)).replaceFirst("");
            unnamed.put(promise.group(1), normal(MERE_NAME.matcher(body).replaceAll("")));
        }
        fault(unnamed.size() != 55, "the document has " + unnamed.size() + " terms and promises, 55 were expected");
    }

    private static StringBuilder normal(String text) {
        return new StringBuilder(text.replaceAll("\\s+", " ").trim());
    }

    private void fault(boolean is, String text) {
        if (is) {
            wrong++;
            System.out.println(text);
        }
    }

    void in(String heading) {
        place = heading;
        fault(!unnamed.containsKey(heading), "the document has no " + heading);
    }

    /** Takes a sentence from those that are not named yet. */
    private void name(String sentence) {
        StringBuilder text = unnamed.getOrDefault(place, new StringBuilder());
        int start = text.indexOf(sentence);
        fault(start < 0, place + ": no such sentence, or named twice: " + sentence);
        if (start >= 0) {
            text.replace(start, start + sentence.length(), "\n");
        }
    }

    /** A sentence that names no case of its own: the tests of the others beside it show what it says. */
    void plain(String sentence) {
        name(sentence);
    }

    void says(String sentence, Test test) {
        name(sentence);
        tests++;
        Pair x = new Pair();
        try {
            test.run(x);
            x.end();
        } catch (RuntimeException e) {
            x.faults().add("the test threw " + e + " at " + e.getStackTrace()[0]);
        }
        List<String> faults = x.faults();
        for (int i = 0; i < faults.size() && i < 5; i++) {
            fault(true, place + ", \"" + sentence + "\": " + faults.get(i));
        }
    }

    boolean hold() {
        for (Map.Entry<String, StringBuilder> entry : unnamed.entrySet()) {
            String rest = entry.getValue().toString().replaceAll("(?m)^[\\s.-]*$", "").trim();
            fault(!rest.isEmpty(), entry.getKey() + ": no test names: " + rest);
        }
        System.out.println(wrong == 0 ? "all sentences hold (" + tests + " tests)" : wrong + " faults in " + tests + " tests");
        return wrong == 0;
    }
}
