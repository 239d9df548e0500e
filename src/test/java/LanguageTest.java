import java.io.IOException;
import java.nio.file.Files;
import java.nio.file.Path;
import java.util.List;
import java.util.regex.Matcher;
import java.util.regex.Pattern;

/** The rules of LANGUAGE.md that can be read from the source's words. Run it at the project's root. */
final class LanguageTest {
    private static final Path SOURCE = Path.of("src/main/java/TernaryMatcher.java");
    private static final String[] FORBIDDEN = {
        "\\b(throw|throws|try|catch|finally|synchronized|assert|volatile|transient|native|package)\\b",
        "\\bimport\\b(?! java\\.util\\.(ArrayList|List|Arrays|Iterator);)",
        "->", "::", "@", "\\bprotected\\b", "\\bstatic\\s*\\{", "\\w+Exact\\b", "\"\\s*\\+", "\\+\\s*\"",
        "\\b(System\\.(?!arraycopy)\\w+|Thread|Random|Object|Class|Runtime)\\b",
        "\\b(equals|hashCode|toString|finalize)\\s*\\(", "\\[\\]\\s*\\[\\]\\s*\\["
    };

    public static void main(String[] args) throws IOException {
        String source = Files.readString(SOURCE);
        for (int i = 0; i < source.length(); i++) {
            if (source.charAt(i) > 126) {
                Due.holds("sign " + i + " of the source is plain", false);
            }
        }
        String code = withoutComments(source);
        for (String pattern : FORBIDDEN) {
            Matcher found = Pattern.compile(pattern).matcher(code);
            Due.holds(pattern + " stands nowhere", !found.find());
        }
        Due.is("classes at the top", count("(?m)^(public )?(final )?(class|interface|enum|record)\\b", code), 1);
        Due.holds("at most twelve classes", count("\\b(class|interface|enum|record) [A-Z]", code) <= 12);
        methodsAreShort(List.of(code.split("\n", -1)));
        Due.end("LanguageTest");
    }

    private static int count(String pattern, String text) {
        Matcher found = Pattern.compile(pattern).matcher(text);
        int count = 0;
        while (found.find()) {
            count++;
        }
        return count;
    }

    private static String withoutComments(String source) {
        return source.replaceAll("(?s)/\\*.*?\\*/", "").replaceAll("(?m)//.*$", "");
    }

    /** A method runs from a line with its head to the line that closes it at the same depth. */
    private static void methodsAreShort(List<String> lines) {
        Pattern head = Pattern.compile("^( +)[\\w\\[\\] ]+\\([^;]*\\) \\{$");
        for (int start = 0; start < lines.size(); start++) {
            Matcher found = head.matcher(lines.get(start));
            boolean method = found.find() && !lines.get(start).matches("^ +(if|for|while|switch|\\} else).*");
            if (method) {
                int end = start;
                while (end < lines.size() && !lines.get(end).equals(found.group(1) + "}")) {
                    end++;
                }
                Due.holds("short: " + lines.get(start).trim(), end - start < 60);
            }
        }
    }
}
