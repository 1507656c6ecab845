import java.lang.management.ManagementFactory;
import java.lang.reflect.Array;
import java.lang.reflect.Constructor;
import java.lang.reflect.Field;
import java.lang.reflect.Method;
import java.lang.reflect.Modifier;
import java.nio.file.Files;
import java.nio.file.Path;
import java.util.Collections;
import java.util.IdentityHashMap;
import java.util.Set;
import java.util.regex.Matcher;
import java.util.regex.Pattern;

/** The rules of LANGUAGE.md that can be seen in the text, in the classes, or in a run. */
final class LanguageTest {
    private static final Path PROGRAM = Path.of("src/main/java/BoundChains.java");
    private static final String[] FORBIDDEN_WORDS = {"import", "package", "throw", "throws", "try",
        "catch", "finally", "synchronized", "assert", "protected", "native", "volatile",
        "transient", "hashCode", "toString", "equals", "Object", "Thread", "Random"};
    /** Texts are allowed, but none is needed, and without them comments are told by their signs. */
    private static final String[] FORBIDDEN_SIGNS = {"->", "::", "@", "\"", "java."};
    /** All calls of a run share a room of 600,000 objects and 7.3 million elements. */
    private static final int MOST_OBJECTS = 300;
    private static final int MOST_ELEMENTS = 3000;
    private static final int RUNS = 200;
    /** A round is 43 calls, and an object is good for 512. */
    private static final int ROUNDS = 11;

    public static void main(String[] args) throws Exception {
        String text = withoutComments(Files.readString(PROGRAM));
        theTextHasNothingForbidden(text);
        methodsAreShort(text);
        classesAreSmall();
        anObjectIsSmall();
        noCallMakesAnObject();
        Due.end();
    }

    private static String withoutComments(String text) {
        return text.replaceAll("(?s)/\\*.*?\\*/", "").replaceAll("//.*", "");
    }

    private static void theTextHasNothingForbidden(String text) {
        for (String word : FORBIDDEN_WORDS) {
            Due.is("rules 1 to 6: " + word, count(text, "\\b" + word + "\\b"), 0);
        }
        for (String sign : FORBIDDEN_SIGNS) {
            Due.is("rules 2 to 6: " + sign, count(text, Pattern.quote(sign)), 0);
        }
        Due.is("rule 5: a static block", count(text, "\\bstatic\\s*\\{"), 0);
        Due.is("one class at the top", count(text, "(?m)^\\S.*\\b(class|record|enum|interface) "), 1);
        for (char one : text.toCharArray()) {
            if (one > 127) {
                Due.is("a sign that is not plain", one, 0);
            }
        }
    }

    private static int count(String text, String pattern) {
        Matcher found = Pattern.compile(pattern).matcher(text);
        int count = 0;
        while (found.find()) {
            count++;
        }
        return count;
    }

    /** A method begins with a line that ends a list of parameters, and ends at its own indent. */
    private static void methodsAreShort(String text) {
        String[] lines = text.split("\n");
        int methods = 0;
        for (int k = 0; k < lines.length; k++) {
            if (!lines[k].matches(" {4}(?: {4})?\\w.*\\) \\{") || lines[k].contains(" class ")) {
                continue;
            }
            String end = lines[k].replaceAll("\\S.*", "") + "}";
            int last = k;
            while (last < lines.length && !lines[last].equals(end)) {
                last++;
            }
            methods++;
            Due.is("rule 11: at most sixty lines: " + lines[k].strip(), last - k < 60 ? 1 : 0, 1);
        }
        Due.is("methods were found", methods > 40 ? 1 : 0, 1);
    }

    private static void classesAreSmall() {
        Class<?>[] nested = BoundChains.class.getDeclaredClasses();
        Due.is("rule 11: at most twelve classes", nested.length < 12 ? 1 : 0, 1);
        isSmall(BoundChains.class);
        for (Class<?> one : nested) {
            Due.is("rule 1: static: " + one, Modifier.isStatic(one.getModifiers()) ? 1 : 0, 1);
            Due.is("rule 1: private or package-visible: " + one,
                one.getModifiers() & (Modifier.PUBLIC | Modifier.PROTECTED), 0);
            Due.is("one level of classes: " + one, one.getDeclaredClasses().length, 0);
            isSmall(one);
        }
    }

    private static void isSmall(Class<?> one) {
        int fields = 0;
        for (Field field : one.getDeclaredFields()) {
            int of = field.getModifiers();
            fields += Modifier.isStatic(of) ? 0 : 1;
            Due.is("rule 5: no static state: " + field,
                Modifier.isStatic(of) && !Modifier.isFinal(of) ? 1 : 0, 0);
        }
        Due.is("rule 11: at most twenty fields: " + one, fields <= 20 ? 1 : 0, 1);
        for (Method method : one.getDeclaredMethods()) {
            Due.is("rule 11: at most seven parameters: " + method,
                method.getParameterCount() <= 7 ? 1 : 0, 1);
        }
        for (Constructor<?> made : one.getDeclaredConstructors()) {
            Due.is("rule 11: at most seven parameters: " + made,
                made.getParameterCount() <= 7 ? 1 : 0, 1);
        }
    }

    private static void anObjectIsSmall() throws IllegalAccessException {
        BoundChains x = new BoundChains();
        Set<Object> made = Collections.newSetFromMap(new IdentityHashMap<>());
        int elements = collect(x, made);
        Due.is("rule 12: few objects: " + made.size(), made.size() <= MOST_OBJECTS ? 1 : 0, 1);
        Due.is("rule 12: few elements: " + elements, elements <= MOST_ELEMENTS ? 1 : 0, 1);
        use(x);
        Set<Object> later = Collections.newSetFromMap(new IdentityHashMap<>());
        Due.is("rule 12: as many elements after many calls", collect(x, later), elements);
        Due.is("rule 12: the same objects after many calls", later.equals(made) ? 1 : 0, 1);
    }

    /** Puts all that can be reached into the set; answers how many fields and elements it has. */
    private static int collect(Object from, Set<Object> into) throws IllegalAccessException {
        if (from == null || !into.add(from)) {
            return 0;
        }
        if (from.getClass().isArray()) {
            int elements = Array.getLength(from);
            boolean numbers = from.getClass().getComponentType().isPrimitive();
            for (int k = 0; k < Array.getLength(from) && !numbers; k++) {
                elements += collect(Array.get(from, k), into);
            }
            return elements;
        }
        int fields = 0;
        for (Field field : from.getClass().getDeclaredFields()) {
            if (!Modifier.isStatic(field.getModifiers())) {
                fields++;
                if (!field.getType().isPrimitive()) {
                    field.setAccessible(true);
                    fields += collect(field.get(from), into);
                }
            }
        }
        return fields;
    }

    private static void noCallMakesAnObject() {
        com.sun.management.ThreadMXBean bean =
            (com.sun.management.ThreadMXBean) ManagementFactory.getThreadMXBean();
        BoundChains[] objects = new BoundChains[RUNS];
        for (int run = 0; run < RUNS; run++) {
            objects[run] = new BoundChains();
        }
        int wrong = use(objects[0]);
        long before = bean.getThreadAllocatedBytes(Thread.currentThread().getId());
        for (int run = 1; run < RUNS; run++) {
            wrong += use(objects[run]);
        }
        long bytes = bean.getThreadAllocatedBytes(Thread.currentThread().getId()) - before;
        // One object in only one of the calls of a round would be 11 * 199 objects of 16 bytes.
        Due.is("rule 12: no call makes an object: " + bytes + " bytes", bytes < 30000 ? 1 : 0, 1);
        Due.is("calls that went another way", wrong, 0);
    }

    /** Makes every call of the face, many times; answers how many calls went another way. */
    private static int use(BoundChains x) {
        int wrong = 0;
        for (int round = 0; round < ROUNDS; round++) {
            wrong += declareAll(x) == 0 ? 0 : 1;
            wrong += x.length(0, 0) == 21 ? 0 : 1;
            wrong += x.element(0, 0, 20) == 32 ? 0 : 1;
            wrong += x.invoke(0, 0, 1) == 64 ? 0 : 1;
            wrong += x.invoke(0, 4, 1) == 64 ? 0 : 1;
            wrong += x.result() == 0 && x.error() == 99 ? 0 : 1;
            wrong += x.log(63) >= 0 ? 0 : 1;
            x.clear();
        }
        return wrong;
    }

    private static int declareAll(BoundChains x) {
        int sum = x.binding(true) + x.carry(0, 0, 3) + x.component(255);
        for (int i = 0; i < 8; i++) {
            sum += x.interceptor(1 + i, 15, i < 2 ? 5 : 1) - i;
            sum += x.bindInterceptor(i, 0, 3);
        }
        for (int d = 0; d < 4; d++) {
            sum += x.decorator(9 - d, d, 15, 1) - d;
            sum += x.list(0, -1, d) + x.list(0, 0, 7 - d);
        }
        return sum + x.bind(0, -1, 0, 3) + x.bind(0, 0, 0, 3) + x.flags(0, 0, 4) + x.deploy();
    }
}
