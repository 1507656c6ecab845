import java.lang.reflect.Constructor;
import java.lang.reflect.Field;
import java.lang.reflect.Method;
import java.lang.reflect.Modifier;
import java.util.List;
import java.util.Set;
import java.util.TreeSet;

/** The face of the class is the document's and nothing more. */
final class FaceTest {
    private static final List<String> FACE = List.of(
        "int CLOSED", "int NOTHING", "int BAD", "int FULL", "int OPEN", "new()",
        "void clear()", "int binding(boolean)", "int carry(int, int, int)",
        "int interceptor(int, int, int)", "int decorator(int, int, int, int)",
        "int component(int)", "int bindInterceptor(int, int, int)",
        "int bind(int, int, int, int)", "int list(int, int, int)", "int flags(int, int, int)",
        "int deploy()", "int length(int, int)", "int element(int, int, int)",
        "int invoke(int, int, int)", "int result()", "int error()", "int log(int)");

    public static void main(String[] args) {
        isPublicAndFinal(BoundChains.class.getModifiers());
        Set<String> seen = new TreeSet<>();
        Set<String> publicNames = new TreeSet<>();
        for (Field field : BoundChains.class.getDeclaredFields()) {
            if (!Modifier.isPrivate(field.getModifiers())) {
                seen.add(field.getType() + " " + field.getName());
                isConstant(field);
            }
        }
        for (Constructor<?> one : BoundChains.class.getDeclaredConstructors()) {
            seen.add("new" + parameters(one.getParameterTypes()));
        }
        for (Method one : BoundChains.class.getDeclaredMethods()) {
            if (!Modifier.isPrivate(one.getModifiers())) {
                publicNames.add(one.getName());
                seen.add(one.getReturnType() + " " + one.getName()
                    + parameters(one.getParameterTypes()));
                Due.is(one + " is public", one.getModifiers(), Modifier.PUBLIC);
            }
        }
        for (Method one : BoundChains.class.getDeclaredMethods()) {
            if (Modifier.isPrivate(one.getModifiers())) {
                Due.is(one + " bears a public name", publicNames.contains(one.getName()) ? 1 : 0, 0);
            }
        }
        Set<String> due = new TreeSet<>(FACE);
        Due.is("face " + seen + " of " + due, seen.equals(due) ? 1 : 0, 1);
        nestedClasses();
        Due.end();
    }

    private static void isPublicAndFinal(int modifiers) {
        Due.is("public and final", modifiers, Modifier.PUBLIC | Modifier.FINAL);
    }

    private static void isConstant(Field field) {
        Due.is(field + " is a constant", field.getModifiers(),
            Modifier.PUBLIC | Modifier.STATIC | Modifier.FINAL);
    }

    private static void nestedClasses() {
        Class<?>[] nested = BoundChains.class.getDeclaredClasses();
        Due.is("at most twelve classes", nested.length < 12 ? 1 : 0, 1);
        for (Class<?> one : nested) {
            int modifiers = one.getModifiers();
            Due.is(one + " is static", Modifier.isStatic(modifiers) ? 1 : 0, 1);
            Due.is(one + " is hidden",
                modifiers & (Modifier.PUBLIC | Modifier.PROTECTED), 0);
            for (Field field : one.getDeclaredFields()) {
                int of = field.getModifiers();
                Due.is(field + " is no static state",
                    Modifier.isStatic(of) && !Modifier.isFinal(of) ? 1 : 0, 0);
            }
        }
    }

    private static String parameters(Class<?>[] types) {
        StringBuilder text = new StringBuilder("(");
        for (Class<?> type : types) {
            text.append(text.length() > 1 ? ", " : "").append(type.getName());
        }
        return text.append(")").toString();
    }
}
