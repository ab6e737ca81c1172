import java.lang.reflect.Constructor;
import java.lang.reflect.Field;
import java.lang.reflect.Member;
import java.lang.reflect.Method;
import java.lang.reflect.Modifier;
import java.util.TreeSet;

/** The face is the document's and no other, and no private method bears the name of a public one. */
public final class FaceTest {
    private static final String METHODS =
        "dancer(iii) of(ii) after(ii) begin(ii) row(iii) feed(i) hall() told(i) pass(i) on(ii) again() together() "
        + "still() meet(ii) far(iii) whom(i) alone(iii) stop() begins(iii) crowd(i) see(iii) can(i) odds(ii)J "
        + "mean(ii)J dance(i) danced(i) book(ii) looked() judge(ii) image() undo() act(iii) trace(i) taken(ii) "
        + "count(i) tape(iii) item(iiJ) read(ii)J shift(iiiii)";
    private static final String CONSTANTS = "BAD FULL NO NONE STATE";

    public static void main(String[] args) {
        Check check = new Check();
        TreeSet<String> methods = new TreeSet<>();
        TreeSet<String> publicNames = new TreeSet<>();
        for (Method method : TwoBeatsAgo.class.getDeclaredMethods()) {
            if (isHidden(method)) continue;
            methods.add(told(method));
            publicNames.add(method.getName());
        }
        check.dueText("the methods", methods.toString(), new TreeSet<>(java.util.List.of(METHODS.split(" "))).toString());
        TreeSet<String> fields = new TreeSet<>();
        for (Field field : TwoBeatsAgo.class.getDeclaredFields()) {
            if (!isHidden(field)) fields.add(field.getName());
        }
        check.dueText("the constants", fields.toString(), new TreeSet<>(java.util.List.of(CONSTANTS.split(" "))).toString());
        int constructors = 0;
        for (Constructor<?> constructor : TwoBeatsAgo.class.getDeclaredConstructors()) {
            if (!isHidden(constructor)) constructors += constructor.getParameterCount() == 0 ? 1 : 100;
        }
        check.due("the constructors", constructors, 1);
        int modifiers = TwoBeatsAgo.class.getModifiers();
        check.due("public and final", Modifier.isPublic(modifiers) && Modifier.isFinal(modifiers) ? 1 : 0, 1);
        for (Method method : TwoBeatsAgo.class.getDeclaredMethods()) {
            if (isHidden(method)) check.due(method.getName() + " is a public name too", publicNames.contains(method.getName()) ? 1 : 0, 0);
        }
        for (Class<?> inner : TwoBeatsAgo.class.getDeclaredClasses()) {
            check.due(inner.getName() + " is static", Modifier.isStatic(inner.getModifiers()) ? 1 : 0, 1);
            check.due(inner.getName() + " is public", Modifier.isPublic(inner.getModifiers()) ? 1 : 0, 0);
        }
        check.due("NONE", TwoBeatsAgo.NONE, -1);
        check.due("BAD", TwoBeatsAgo.BAD, -2);
        check.due("STATE", TwoBeatsAgo.STATE, -3);
        check.due("FULL", TwoBeatsAgo.FULL, -4);
        check.due("NO", TwoBeatsAgo.NO, Long.MIN_VALUE);
        check.end("FaceTest");
    }

    private static boolean isHidden(Member member) {
        return Modifier.isPrivate(member.getModifiers()) || member.isSynthetic();
    }

    private static String told(Method method) {
        StringBuilder text = new StringBuilder(method.getName()).append('(');
        for (Class<?> parameter : method.getParameterTypes()) {
            text.append(parameter == int.class ? "i" : parameter == long.class ? "J" : "?");
        }
        text.append(')').append(method.getReturnType() == int.class ? "" : method.getReturnType() == long.class ? "J" : "?");
        return text.toString();
    }
}
