import java.lang.reflect.Constructor;
import java.lang.reflect.Field;
import java.lang.reflect.Method;
import java.lang.reflect.Modifier;
import java.nio.file.Files;
import java.nio.file.Path;
import java.util.Map;
import java.util.Set;
import java.util.TreeMap;
import java.util.TreeSet;
import java.util.regex.Matcher;
import java.util.regex.Pattern;

/**
 * The public face: the constants, the constructor and the methods of the document's code block, and nothing else.
 * Run it at the project's root.
 */
final class FaceTest {
    private static final Path DOCUMENT = Path.of("../shared/DOC.md");
    private static final Path SOURCE = Path.of("src/main/java/TernaryMatcher.java");
    private static final Map<String, Integer> CONSTANTS = new TreeMap<>();
    private static final Set<String> METHODS = new TreeSet<>();
    private static final Set<String> PUBLIC_NAMES = new TreeSet<>();

    public static void main(String[] args) throws Exception {
        String document = Files.readString(DOCUMENT);
        readFace(document);
        constants();
        publicMethods();
        nothingElseIsSeen();
        insideClasses();
        headings(document, Files.readString(SOURCE));
        Due.end("FaceTest");
    }

    private static void readFace(String document) {
        int from = document.indexOf("```java");
        String face = document.substring(from, document.indexOf("```", from + 3));
        Matcher constant = Pattern.compile("public static final int (\\w+) = (-\\d+);").matcher(face);
        while (constant.find()) {
            CONSTANTS.put(constant.group(1), Integer.valueOf(constant.group(2)));
        }
        Matcher method = Pattern.compile("public int (\\w+)\\((.*)\\);").matcher(face);
        while (method.find()) {
            // Only the types of the parameters are kept.
            METHODS.add(method.group(1) + "(" + method.group(2).replaceAll("(\\w+) \\w+", "$1").replace(" ", "") + ")");
        }
        Due.is("constants of the document", CONSTANTS.size(), 4);
        Due.is("methods of the document", METHODS.size(), 31);
    }

    private static void constants() throws ReflectiveOperationException {
        for (Map.Entry<String, Integer> constant : CONSTANTS.entrySet()) {
            Field field = TernaryMatcher.class.getField(constant.getKey());
            Due.holds(field + " is an int", field.getType() == int.class);
            Due.is(constant.getKey(), field.getInt(null), constant.getValue());
        }
    }

    private static void publicMethods() {
        int modifiers = TernaryMatcher.class.getModifiers();
        Due.holds("the class is public", Modifier.isPublic(modifiers));
        Due.holds("the class is final", Modifier.isFinal(modifiers));
        Set<String> found = new TreeSet<>();
        for (Method method : TernaryMatcher.class.getDeclaredMethods()) {
            if (Modifier.isPublic(method.getModifiers())) {
                found.add(signature(method));
                PUBLIC_NAMES.add(method.getName());
                Due.holds(method + " returns int", method.getReturnType() == int.class);
                Due.holds(method + " is not static", !Modifier.isStatic(method.getModifiers()));
            }
        }
        Due.holds("the methods are those of the document: " + found, found.equals(METHODS));
    }

    private static void nothingElseIsSeen() {
        for (Method method : TernaryMatcher.class.getDeclaredMethods()) {
            if (!Modifier.isPublic(method.getModifiers())) {
                Due.holds(method + " is private", Modifier.isPrivate(method.getModifiers()));
                Due.holds(method + " bears its own name", !PUBLIC_NAMES.contains(method.getName()));
            }
        }
        for (Field field : TernaryMatcher.class.getDeclaredFields()) {
            boolean seen = CONSTANTS.containsKey(field.getName());
            Due.holds(field + " is seen just if it is a constant of the document",
                    seen ? Modifier.isPublic(field.getModifiers()) : Modifier.isPrivate(field.getModifiers()));
        }
        Constructor<?>[] constructors = TernaryMatcher.class.getDeclaredConstructors();
        Due.is("constructors", constructors.length, 1);
        Due.is("parameters of the constructor", constructors[0].getParameterCount(), 0);
        Due.holds("the constructor is public", Modifier.isPublic(constructors[0].getModifiers()));
    }

    private static void insideClasses() {
        staticFieldsAreFinal(TernaryMatcher.class);
        for (Class<?> inside : TernaryMatcher.class.getDeclaredClasses()) {
            Due.holds(inside + " is static", Modifier.isStatic(inside.getModifiers()));
            Due.holds(inside + " is not public", !Modifier.isPublic(inside.getModifiers()));
            staticFieldsAreFinal(inside);
            for (Method method : inside.getDeclaredMethods()) {
                Due.holds(method + " bears its own name", !PUBLIC_NAMES.contains(method.getName()));
                Due.holds(method + " takes at most seven parameters", method.getParameterCount() <= 7);
            }
        }
    }

    private static void staticFieldsAreFinal(Class<?> of) {
        int fields = 0;
        for (Field field : of.getDeclaredFields()) {
            if (Modifier.isStatic(field.getModifiers())) {
                Due.holds(field + " is final", Modifier.isFinal(field.getModifiers()));
            } else {
                fields++;
            }
        }
        Due.holds(of + " has at most twenty fields", fields <= 20);
    }

    /** Ahead of which calls the document says that a heading stands. */
    private static void headings(String document, String source) {
        Matcher said = Pattern.compile("Ahead of the calls (.*) the interface says: (---- .*)\\.").matcher(document);
        int headings = 0;
        while (said.find()) {
            headings++;
            int from = source.indexOf("    // " + said.group(2) + "\n");
            Due.holds(said.group(2) + " stands in the source", from >= 0);
            if (from >= 0) {
                int next = source.indexOf("    // ----", from + 1);
                StringBuilder below = new StringBuilder();
                Matcher method = Pattern.compile("public int (\\w+)\\(").matcher(source.substring(from, next));
                while (method.find()) {
                    below.append(below.length() == 0 ? "`" : ", `").append(method.group(1)).append('`');
                }
                Due.holds(said.group(2) + " stands ahead of " + below, below.toString().equals(said.group(1)));
            }
        }
        Due.is("headings of the document", headings, 5);
    }

    private static String signature(Method method) {
        StringBuilder text = new StringBuilder(method.getName()).append('(');
        for (Class<?> type : method.getParameterTypes()) {
            text.append(text.charAt(text.length() - 1) == '(' ? "" : ",").append(type.getName());
        }
        return text.append(')').toString();
    }
}
