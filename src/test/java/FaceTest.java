import java.lang.reflect.Constructor;
import java.lang.reflect.Field;
import java.lang.reflect.Method;
import java.lang.reflect.Modifier;
import java.util.Set;
import java.util.TreeSet;

/** The public face: its constants, constructor and methods, and nothing else. */
final class FaceTest {
    private static final String[] METHODS = {
        "addRule(int,int,int,int)", "addRange(int,int,int,int)", "remove(int)", "setPlacing(int)",
        "compact()", "spread()", "search(int)", "type(char)", "clearText()", "addText()", "undo()",
        "keep()", "restore()", "ruleIn(int)", "maskIn(int)", "valueIn(int)", "sortIn(int)",
        "slotOf(int,int)", "parts(int)", "rank(int)", "action(int)", "hits(int)", "find(int)",
        "power(int)", "filterMask(int)", "filterValue(int)", "hiddenBy(int)", "keysFor(int)",
        "wouldMove(int)", "entriesFor(int,int)", "total(int)"
    };
    private static final Set<String> PUBLIC_NAMES = new TreeSet<>();

    public static void main(String[] args) {
        constants();
        publicMethods();
        nothingElseIsSeen();
        insideClasses();
        Due.end("FaceTest");
    }

    private static void constants() {
        Due.is("UNKNOWN", TernaryMatcher.UNKNOWN, -1);
        Due.is("OUT_OF_RANGE", TernaryMatcher.OUT_OF_RANGE, -2);
        Due.is("FULL", TernaryMatcher.FULL, -3);
        Due.is("NONE", TernaryMatcher.NONE, -4);
    }

    private static void publicMethods() {
        int modifiers = TernaryMatcher.class.getModifiers();
        Due.holds("the class is public", Modifier.isPublic(modifiers));
        Due.holds("the class is final", Modifier.isFinal(modifiers));
        Set<String> found = new TreeSet<>();
        for (Method method : TernaryMatcher.class.getDeclaredMethods()) {
            if (Modifier.isPublic(method.getModifiers())) {
                found.add(signature(method));
                PUBLIC_NAMES.add(method.getName());
                Due.holds(method + " returns int", method.getReturnType() == int.class);
                Due.holds(method + " is not static", !Modifier.isStatic(method.getModifiers()));
            }
        }
        Due.holds("the methods are those of the document: " + found, found.equals(Set.of(METHODS)));
    }

    private static void nothingElseIsSeen() {
        for (Method method : TernaryMatcher.class.getDeclaredMethods()) {
            if (!Modifier.isPublic(method.getModifiers())) {
                Due.holds(method + " is private", Modifier.isPrivate(method.getModifiers()));
                Due.holds(method + " bears its own name", !PUBLIC_NAMES.contains(method.getName()));
            }
        }
        Set<String> constants = Set.of("UNKNOWN", "OUT_OF_RANGE", "FULL", "NONE");
        for (Field field : TernaryMatcher.class.getDeclaredFields()) {
            boolean seen = constants.contains(field.getName());
            Due.holds(field + " is seen just if it is a constant of the document",
                    seen ? Modifier.isPublic(field.getModifiers()) : Modifier.isPrivate(field.getModifiers()));
        }
        Constructor<?>[] constructors = TernaryMatcher.class.getDeclaredConstructors();
        Due.is("constructors", constructors.length, 1);
        Due.is("parameters of the constructor", constructors[0].getParameterCount(), 0);
        Due.holds("the constructor is public", Modifier.isPublic(constructors[0].getModifiers()));
    }

    private static void insideClasses() {
        staticFieldsAreFinal(TernaryMatcher.class);
        for (Class<?> inside : TernaryMatcher.class.getDeclaredClasses()) {
            Due.holds(inside + " is static", Modifier.isStatic(inside.getModifiers()));
            Due.holds(inside + " is not public", !Modifier.isPublic(inside.getModifiers()));
            staticFieldsAreFinal(inside);
            for (Method method : inside.getDeclaredMethods()) {
                Due.holds(method + " bears its own name", !PUBLIC_NAMES.contains(method.getName()));
                Due.holds(method + " takes at most seven parameters", method.getParameterCount() <= 7);
            }
        }
    }

    private static void staticFieldsAreFinal(Class<?> of) {
        int fields = 0;
        for (Field field : of.getDeclaredFields()) {
            if (Modifier.isStatic(field.getModifiers())) {
                Due.holds(field + " is final", Modifier.isFinal(field.getModifiers()));
            } else {
                fields++;
            }
        }
        Due.holds(of + " has at most twenty fields", fields <= 20);
    }

    private static String signature(Method method) {
        StringBuilder text = new StringBuilder(method.getName()).append('(');
        for (Class<?> type : method.getParameterTypes()) {
            text.append(text.charAt(text.length() - 1) == '(' ? "" : ",").append(type.getName());
        }
        return text.append(')').toString();
    }
}
