import java.io.IOException;
import java.lang.reflect.InvocationTargetException;
import java.lang.reflect.Method;
import java.lang.reflect.Modifier;
import java.nio.file.Files;
import java.nio.file.Path;
import java.util.regex.Matcher;
import java.util.regex.Pattern;

/** README.md's calls answer what it says behind them, and it names every call. Run from the project's folder. */
public final class ReadmeTest {
    private static final Pattern CALL = Pattern.compile("x\\.(\\w+)\\(([^)]*)\\);\\s*// (-?\\d+): .*");
    private static final Pattern TEXT = Pattern.compile("for \\(char sign : \"([^\"]*)\"\\.toCharArray\\(\\)\\) x\\.feed\\(sign\\);");
    private static final String MADE = "TwoBeatsAgo x = new TwoBeatsAgo();";

    private final Check check = new Check();
    private TwoBeatsAgo x;
    private int calls;

    public static void main(String[] args) throws IOException, IllegalAccessException, InvocationTargetException {
        String readme = Files.readString(Path.of("README.md"));
        ReadmeTest test = new ReadmeTest();
        test.goThroughExamples(readme);
        test.lookForNames(readme);
        test.check.end("ReadmeTest");
    }

    private void goThroughExamples(String readme) throws IllegalAccessException, InvocationTargetException {
        Matcher block = Pattern.compile("(?s)```java\n(.*?)```").matcher(readme);
        while (block.find()) {
            for (String line : block.group(1).split("\n")) {
                if (!line.isEmpty()) goThroughLine(line);
            }
        }
        check.due("calls with an answer in README.md, at least 20", calls >= 20 ? 1 : 0, 1);
    }

    private void goThroughLine(String line) throws IllegalAccessException, InvocationTargetException {
        Matcher call = CALL.matcher(line);
        Matcher text = TEXT.matcher(line);
        if (line.equals(MADE)) {
            x = new TwoBeatsAgo();
        } else if (text.matches()) {
            for (char sign : text.group(1).toCharArray()) {
                x.feed(sign);
            }
        } else if (call.matches()) {
            String[] told = call.group(2).isEmpty() ? new String[0] : call.group(2).split(", ");
            check.due("README.md: " + line, answer(call.group(1), told), Long.parseLong(call.group(3)));
            calls++;
        } else {
            check.dueText("README.md", line, "a line that this test can read");
        }
    }

    private long answer(String name, String[] told) throws IllegalAccessException, InvocationTargetException {
        for (Method method : TwoBeatsAgo.class.getDeclaredMethods()) {
            if (!method.getName().equals(name) || method.getParameterCount() != told.length) continue;
            Object[] given = new Object[told.length];
            for (int i = 0; i < told.length; i++) {
                boolean isLong = method.getParameterTypes()[i] == long.class;
                given[i] = isLong ? (Object) Long.valueOf(told[i]) : (Object) Integer.valueOf(told[i]);
            }
            return ((Number) method.invoke(x, given)).longValue();
        }
        check.dueText("README.md", name + " with " + told.length, "a call of the class");
        return TwoBeatsAgo.NO;
    }

    private void lookForNames(String readme) {
        for (Method method : TwoBeatsAgo.class.getDeclaredMethods()) {
            if (!Modifier.isPublic(method.getModifiers())) continue;
            check.due("README.md names " + method.getName(), readme.contains("`" + method.getName() + "`") ? 1 : 0, 1);
        }
    }
}
