import java.lang.reflect.Method;
import java.lang.reflect.Modifier;
import java.net.URL;
import java.net.URLClassLoader;
import java.nio.file.Files;
import java.nio.file.Path;
import java.util.List;
import java.util.Set;
import java.util.TreeSet;
import java.util.regex.Matcher;
import java.util.regex.Pattern;
import javax.tools.ToolProvider;

/**
 * What README.md shows: its Java code compiles, each call answers what is shown behind it, and the methods it
 * names are those of the class. Run it at the project's root.
 */
public final class ReadmeTest {
    private static final Path FILE = Path.of("README.md");
    private static final Pattern SHOWN = Pattern.compile("memory\\.(.+); +// (-?\\d+|[A-Z_]{2,})\\b.*");
    private static final String EXAMPLE = "ReadmeExample";

    public static void main(String[] args) throws Exception {
        List<String> lines = Files.readAllLines(FILE);
        Path folder = Files.createTempDirectory("readme");
        try {
            runExample(folder, exampleFrom(lines));
        } finally {
            Files.deleteIfExists(folder.resolve(EXAMPLE + ".java"));
            Files.deleteIfExists(folder.resolve(EXAMPLE + ".class"));
            Files.deleteIfExists(folder);
        }
        namesEachMethod(String.join("\n", lines));
        Due.end("ReadmeTest");
    }

    /** The page's code as a class that checks each answer; each block of code stands for itself. */
    private static String exampleFrom(List<String> lines) {
        StringBuilder code = new StringBuilder("public final class " + EXAMPLE + " implements Runnable {\n"
                + "public void run() {\n");
        boolean inside = false;
        for (String line : lines) {
            if (line.equals("```java")) {
                inside = true;
                code.append("{\n");
            } else if (inside && line.equals("```")) {
                inside = false;
                code.append("}\n");
            } else if (inside) {
                code.append(checked(line)).append('\n');
            }
        }
        Due.holds("the last block of code is closed", !inside);
        return code.append("}\n}\n").toString();
    }

    /** A call at the start of a line becomes a check of its answer; any other line stays. */
    private static String checked(String line) {
        if (!line.startsWith("memory.")) {
            return line;
        }
        Matcher shown = SHOWN.matcher(line);
        boolean answered = shown.matches();
        Due.holds("an answer is shown behind: " + line, answered);
        if (!answered) {
            return line;
        }
        String call = shown.group(1);
        String due = shown.group(2).matches("[A-Z_]+") ? "TernaryMatcher." + shown.group(2) : shown.group(2);
        return "ReadmeTest.answers(\"" + call.replace("\"", "\\\"") + "\", memory." + call + ", " + due + ");";
    }

    /** For the code of the page, which another class loader has loaded. */
    public static void answers(String call, int got, int due) {
        Due.is(call, got, due);
    }

    private static void runExample(Path folder, String code) throws Exception {
        Path source = Files.writeString(folder.resolve(EXAMPLE + ".java"), code);
        int failed = ToolProvider.getSystemJavaCompiler().run(null, null, null, "--release", "17",
                "-cp", System.getProperty("java.class.path"), "-d", folder.toString(), source.toString());
        Due.is("compiling the page's code", failed, 0);
        if (failed == 0) {
            int before = Due.checks();
            try (URLClassLoader loader = new URLClassLoader(new URL[] {folder.toUri().toURL()})) {
                Class<?> example = loader.loadClass(EXAMPLE);
                ((Runnable) example.getDeclaredConstructor().newInstance()).run();
            }
            Due.holds("the page shows answers", Due.checks() > before);
        }
    }

    private static void namesEachMethod(String page) {
        Set<String> due = new TreeSet<>();
        for (Method method : TernaryMatcher.class.getDeclaredMethods()) {
            if (Modifier.isPublic(method.getModifiers())) {
                due.add(method.getName() + "/" + method.getParameterCount());
            }
        }
        Set<String> named = new TreeSet<>();
        Matcher found = Pattern.compile("`(\\w+)\\(([^)]*)\\)`").matcher(page);
        while (found.find()) {
            int parameters = found.group(2).isEmpty() ? 0 : found.group(2).split(",").length;
            named.add(found.group(1) + "/" + parameters);
        }
        Due.holds("the methods named are those of the class: " + named, named.equals(due));
    }
}
