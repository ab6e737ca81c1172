import java.io.IOException;
import java.nio.file.Files;
import java.nio.file.Path;
import java.util.ArrayList;
import java.util.List;
import java.util.TreeMap;
import java.util.TreeSet;
import java.util.regex.Matcher;
import java.util.regex.Pattern;

/** What of ../shared/LANGUAGE.md a look at the words of the source can tell. */
public final class LanguageTest {
    /** Rules 2, 3, 4, 5, 6, 13. */
    private static final String[] NEVER = {
        "\\b(throws?|try|catch|finally|synchronized|assert|volatile|transient|native)\\b",
        "->", "::", "\\bstatic\\s*\\{", "\\bpackage\\b", "Exact\\b",
        "\\b(double|float|Object|HashMap|Map|Set|Random|Thread|System\\.(?!arraycopy\\b)\\w+)\\b",
        "\\b(equals|hashCode|toString)\\s*\\(", "\"\\s*\\+|\\+\\s*\"", "[^\\x00-\\x7f]",
        "import (?!java\\.util\\.(Arrays|ArrayList|List|Iterator);)", "\\bstatic(?! final| int| long| boolean| String| char| void| class)",
        "\\bwhile \\(true\\)", "for \\(;;\\)", "\\bfor \\([^;]*;\\s*;"
    };
    private static final Pattern METHOD = Pattern.compile(
        "\\b(?:public|private) (?:static )?(?:[\\w\\[\\]]+ )?(\\w+)\\(([^)]*)\\) \\{");
    private static final Pattern FIELD = Pattern.compile("\\bprivate (?:final )?[\\w\\[\\]]+ \\w+( = [^;]*)?;");
    private static final int MOST_CLASSES = 12;
    private static final int MOST_FIELDS = 20;
    private static final int MOST_LINES = 60;
    private static final int MOST_PARAMETERS = 7;
    private static final int DEEPEST = 8;

    private final Check check = new Check();
    private final TreeMap<String, TreeSet<String>> callsByMethod = new TreeMap<>();
    private final List<String> open = new ArrayList<>();
    private List<String> deepest = new ArrayList<>();

    public static void main(String[] args) throws IOException {
        String source = Files.readString(Path.of(System.getProperty("main.source", "src/main/java/TwoBeatsAgo.java")));
        String code = source.replaceAll("(?s)/\\*.*?\\*/", "").replaceAll("//[^\n]*", "");
        LanguageTest test = new LanguageTest();
        test.lookForWords(code);
        test.lookAtClasses(code);
        test.lookAtMethods(code);
        test.lookAtDepth();
        test.check.end("LanguageTest");
    }

    private void lookForWords(String code) {
        for (String never : NEVER) {
            Matcher matcher = Pattern.compile(never).matcher(code);
            check.dueText("the source", matcher.find() ? "has '" + matcher.group() + "'" : "is as told", "is as told");
        }
    }

    private void lookAtClasses(String code) {
        String[] classes = code.split("\\b(?:class|interface|enum|record) (?=\\w+)");
        check.due("rule 11: 12 classes at most", classes.length - 1 <= MOST_CLASSES ? 1 : 0, 1);
        for (int i = 1; i < classes.length; i++) {
            int fields = 0;
            Matcher field = FIELD.matcher(classes[i]);
            while (field.find()) fields++;
            check.due("rule 11: 20 fields at most in " + classes[i].split("\\W")[0], fields <= MOST_FIELDS ? 1 : 0, 1);
        }
    }

    /** Rule 11, and what depth needs: who calls whom, by name. */
    private void lookAtMethods(String code) {
        TreeMap<String, String> bodies = new TreeMap<>();
        Matcher method = METHOD.matcher(code);
        while (method.find()) {
            String name = method.group(1);
            String body = bodyFrom(code, method.end());
            int parameters = method.group(2).isEmpty() ? 0 : method.group(2).split(",").length;
            check.due("rule 11: 7 parameters at most of " + name, parameters <= MOST_PARAMETERS ? 1 : 0, 1);
            check.due("rule 11: 60 lines at most of " + name, body.split("\n").length <= MOST_LINES ? 1 : 0, 1);
            bodies.merge(name, body, (one, other) -> one + other);
        }
        check.due("methods found", bodies.size() >= 60 ? 1 : 0, 1);
        for (String name : bodies.keySet()) {
            TreeSet<String> called = new TreeSet<>();
            Matcher call = Pattern.compile("\\b(?<!Math\\.)(\\w+)\\(").matcher(bodies.get(name));
            while (call.find()) {
                if (bodies.containsKey(call.group(1))) called.add(call.group(1));
            }
            callsByMethod.put(name, called);
        }
    }

    private static String bodyFrom(String code, int from) {
        int braces = 1;
        int at = from;
        while (at < code.length() && braces > 0) {
            if (code.charAt(at) == '{') braces++;
            if (code.charAt(at) == '}') braces--;
            at++;
        }
        return code.substring(from, at);
    }

    /** Each method of a recursion counts once. */
    private void lookAtDepth() {
        for (String name : callsByMethod.keySet()) {
            goDown(name);
        }
        check.dueText("rule 11: calls eight deep at most", deepest.size() <= DEEPEST ? "so" : String.join(" > ", deepest), "so");
    }

    private void goDown(String name) {
        if (open.contains(name)) return;
        open.add(name);
        if (open.size() > deepest.size()) deepest = new ArrayList<>(open);
        for (String called : callsByMethod.get(name)) {
            goDown(called);
        }
        open.remove(open.size() - 1);
    }
}
