import java.lang.reflect.InvocationTargetException;
import java.lang.reflect.Method;
import java.nio.file.Path;
import java.util.Arrays;
import java.util.Comparator;

/**
 * Runs the test of each sentence of the document's "Terms" and promises, and looks whether each sentence
 * has one. Run it at the project's root.
 */
final class SentencesTest {
    private static final Path FILE = Path.of("../shared/DOC.md");
    private static final int PARTS = 39;
    private static final Class<?>[] GROUPS = {
        EntrySentences.class, InsertSentences.class, RangeAndBankSentences.class, TextSentences.class,
        HistorySentences.class, ErrorSentences.class, ChangeSentences.class, AskSentences.class
    };

    public static void main(String[] args) throws Exception {
        Document document = new Document(FILE);
        Due.is("parts of the document", document.parts(), PARTS);
        for (Class<?> group : GROUPS) {
            Method[] methods = group.getDeclaredMethods();
            Arrays.sort(methods, Comparator.comparing(Method::getName));
            for (Method method : methods) {
                if (method.isAnnotationPresent(Says.class)) {
                    runOne(document, method);
                }
            }
        }
        Due.about("");
        Due.holds("each sentence has a test; none quotes:" + document.neverQuoted(), document.neverQuoted().isEmpty());
        Due.end("SentencesTest");
    }

    private static void runOne(Document document, Method method) throws IllegalAccessException {
        Says says = method.getAnnotation(Says.class);
        Due.about(says.in() + ", " + method.getName() + ": ");
        for (String words : says.words()) {
            Due.holds("these words stand there: " + words, document.quote(says.in(), words));
        }
        int before = Due.checks();
        try {
            method.invoke(null);
        } catch (InvocationTargetException thrown) {
            Due.holds("nothing is thrown, but " + thrown.getCause() + " was", false);
        }
        Due.holds("it checks something", Due.checks() > before);
    }
}
