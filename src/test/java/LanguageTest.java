import java.io.IOException;
import java.nio.file.Files;
import java.nio.file.Path;
import java.util.regex.Matcher;
import java.util.regex.Pattern;

/** What of ../shared/LANGUAGE.md a look at the words of the source can tell. */
public final class LanguageTest {
    /** Rules 2, 3, 4, 5, 6, 13. */
    private static final String[] NEVER = {
        "\\b(throws?|try|catch|finally|synchronized|assert|volatile|transient|native)\\b",
        "->", "::", "\\bstatic\\s*\\{", "\\bpackage\\b", "Exact\\b",
        "\\b(double|float|Object|HashMap|Map|Set|Random|Thread|System\\.(?!arraycopy\\b)\\w+)\\b",
        "\\b(equals|hashCode|toString)\\s*\\(", "\"\\s*\\+|\\+\\s*\"", "[^\\x00-\\x7f]",
        "import (?!java\\.util\\.(Arrays|ArrayList|List|Iterator);)", "\\bstatic(?! final| int| long| boolean| String| char| void| class)"
    };

    public static void main(String[] args) throws IOException {
        Check check = new Check();
        String source = Files.readString(Path.of(System.getProperty("main.source", "src/main/java/TwoBeatsAgo.java")));
        String code = source.replaceAll("(?s)/\\*.*?\\*/", "").replaceAll("//[^\n]*", "");
        for (String never : NEVER) {
            Matcher matcher = Pattern.compile(never).matcher(code);
            check.dueText("the source", matcher.find() ? "has '" + matcher.group() + "'" : "is as told", "is as told");
        }
        int classes = 0;
        Matcher matcher = Pattern.compile("\\b(class|interface|enum|record) \\w+").matcher(code);
        while (matcher.find()) classes++;
        check.due("12 classes at most", classes <= 12 ? 1 : 0, 1);
        check.end("LanguageTest");
    }
}
