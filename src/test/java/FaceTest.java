import java.io.IOException;
import java.lang.reflect.Constructor;
import java.lang.reflect.Field;
import java.lang.reflect.Method;
import java.lang.reflect.Modifier;
import java.nio.file.Files;
import java.nio.file.Path;
import java.util.Set;
import java.util.TreeSet;
import java.util.regex.Matcher;
import java.util.regex.Pattern;

/** The face of the class is the one that the document writes out, and nothing more. */
final class FaceTest {
    private static final Path DOCUMENT = Path.of("../shared/DOC.md");
    /** Five constants, the constructor and seventeen methods. */
    private static final int MEMBERS = 23;
    private static final int CONSTANT = Modifier.PUBLIC | Modifier.STATIC | Modifier.FINAL;
    private static final Pattern CONSTANT_LINE =
        Pattern.compile("public static final (\\w+) (\\w+) = (-?\\d+);");
    private static final Pattern CALL_LINE =
        Pattern.compile("public (?:(\\w+) )?(\\w+)\\((.*)\\);");

    public static void main(String[] args) throws Exception {
        Set<String> due = faceOfDocument();
        Due.is("members that the document writes out", due.size(), MEMBERS);
        Set<String> seen = faceOfClass();
        for (String member : due) {
            Due.is("the class has " + member, seen.contains(member) ? 1 : 0, 1);
        }
        for (String member : seen) {
            Due.is("the document has " + member, due.contains(member) ? 1 : 0, 1);
        }
        Due.is("public and final", BoundChains.class.getModifiers(),
            Modifier.PUBLIC | Modifier.FINAL);
        noPrivateMethodBearsAPublicName();
        Due.end();
    }

    private static Set<String> faceOfDocument() throws IOException {
        String document = Files.readString(DOCUMENT);
        String below = document.substring(document.indexOf("## The public face"));
        String code = below.substring(below.indexOf("```java"), below.indexOf("## Terms"));
        Set<String> face = new TreeSet<>();
        for (String line : code.split("\n")) {
            String told = line.strip();
            Matcher constant = CONSTANT_LINE.matcher(told);
            Matcher call = CALL_LINE.matcher(told);
            if (constant.matches()) {
                face.add(constant.group(1) + " " + constant.group(2) + " = " + constant.group(3));
            } else if (call.matches()) {
                face.add(call.group(1) + " " + call.group(2)
                    + "(" + call.group(3).replaceAll(" \\w+(?=,|$)", "") + ")");
            } else {
                Due.is("a line that is a member: " + told, told.startsWith("public ")
                    && !told.startsWith("public final class ") ? 1 : 0, 0);
            }
        }
        return face;
    }

    private static Set<String> faceOfClass() throws IllegalAccessException {
        Set<String> face = new TreeSet<>();
        for (Field field : BoundChains.class.getDeclaredFields()) {
            if (!Modifier.isPrivate(field.getModifiers())) {
                Due.is(field + " is a constant", field.getModifiers(), CONSTANT);
                face.add(field.getType() + " " + field.getName() + " = "
                    + (Modifier.isStatic(field.getModifiers()) ? field.get(null) : "?"));
            }
        }
        for (Constructor<?> one : BoundChains.class.getDeclaredConstructors()) {
            Due.is(one + " is public", one.getModifiers(), Modifier.PUBLIC);
            face.add("null BoundChains" + parameters(one.getParameterTypes()));
        }
        for (Method one : BoundChains.class.getDeclaredMethods()) {
            if (!Modifier.isPrivate(one.getModifiers())) {
                Due.is(one + " is public and nothing else", one.getModifiers(), Modifier.PUBLIC);
                face.add(one.getReturnType() + " " + one.getName()
                    + parameters(one.getParameterTypes()));
            }
        }
        return face;
    }

    private static void noPrivateMethodBearsAPublicName() {
        Set<String> names = new TreeSet<>();
        for (Method one : BoundChains.class.getMethods()) {
            names.add(one.getName());
        }
        for (Method one : BoundChains.class.getDeclaredMethods()) {
            if (Modifier.isPrivate(one.getModifiers())) {
                Due.is(one + " bears a public name", names.contains(one.getName()) ? 1 : 0, 0);
            }
        }
    }

    private static String parameters(Class<?>[] types) {
        StringBuilder text = new StringBuilder("(");
        for (Class<?> type : types) {
            text.append(text.length() > 1 ? ", " : "").append(type.getName());
        }
        return text.append(")").toString();
    }
}
