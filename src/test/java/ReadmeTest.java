import java.io.StringWriter;
import java.lang.reflect.InvocationTargetException;
import java.lang.reflect.Method;
import java.lang.reflect.Modifier;
import java.net.URL;
import java.net.URLClassLoader;
import java.nio.file.Files;
import java.nio.file.Path;
import java.util.Comparator;
import java.util.List;
import java.util.regex.Matcher;
import java.util.regex.Pattern;
import java.util.stream.Collectors;
import java.util.stream.Stream;
import javax.tools.JavaCompiler;
import javax.tools.StandardJavaFileManager;
import javax.tools.ToolProvider;

/** README.md names every call, and its examples are Java whose calls answer what it says. */
public final class ReadmeTest {
    private static final Check C = new Check("ReadmeTest");
    private static final Pattern BLOCK = Pattern.compile("(?s)```java\n(.*?)```");
    private static final Pattern ANSWER = Pattern.compile("(?m)^(x\\.\\w+\\([^;\n]*\\)); +// (-?\\d+)\\b.*$");

    public static void main(String[] args) throws Exception {
        String text = Files.readString(Path.of("README.md"));
        for (Method m : StepAway.class.getDeclaredMethods()) {
            if (Modifier.isPublic(m.getModifiers())) {
                C.due(m.getName() + " is named", text.contains("`" + m.getName() + "(") ? 1 : 0, 1);
            }
        }
        C.due("how tests are run is said", text.contains(".ci/run") ? 1 : 0, 1);
        Path folder = Files.createTempDirectory("readme");
        try {
            runExamples(text, folder);
        } finally {
            empty(folder);
        }
        C.finish();
    }

    /** The first block is a method, the second what is done with it. */
    private static void runExamples(String text, Path folder) throws Exception {
        List<String> blocks = BLOCK.matcher(text).results().map(r -> r.group(1)).collect(Collectors.toList());
        C.due("two blocks of Java", blocks.size(), 2);
        Matcher answers = ANSWER.matcher(blocks.get(1));
        C.due("answers are said", answers.results().count() > 30 ? 1 : 0, 1);
        String checked = answers.replaceAll(r -> Matcher.quoteReplacement(
                "due(\"" + r.group(1).replace("\"", "\\\"") + "\", " + r.group(1) + ", " + r.group(2) + "L);"));
        String source = "public final class ReadmeExample {\n" + blocks.get(0)
                + "static StringBuilder wrong = new StringBuilder();\n"
                + "static void due(String call, long got, long want) {\n"
                + "    if (got != want) wrong.append(call).append(\" answers \").append(got).append('\\n');\n"
                + "}\n"
                + "public static String run() {\n" + checked + "return wrong.toString();\n}\n}\n";
        Path file = Files.writeString(folder.resolve("ReadmeExample.java"), source);
        C.due("it is Java", compile(file, folder) ? 1 : 0, 1);
        URL[] places = {folder.toUri().toURL()};
        try (URLClassLoader loader = new URLClassLoader(places, ReadmeTest.class.getClassLoader())) {
            Object wrong = loader.loadClass("ReadmeExample").getMethod("run").invoke(null);
            C.due("as README.md says, but for:\n" + wrong, wrong.equals("") ? 1 : 0, 1);
        } catch (InvocationTargetException e) {
            C.due("nothing is thrown: " + e.getCause(), 0, 1);
        }
    }

    private static boolean compile(Path file, Path folder) throws Exception {
        JavaCompiler compiler = ToolProvider.getSystemJavaCompiler();
        StringWriter said = new StringWriter();
        try (StandardJavaFileManager files = compiler.getStandardFileManager(null, null, null)) {
            boolean fine = compiler.getTask(said, files, null, List.of("-proc:none", "-cp",
                    System.getProperty("java.class.path"), "-d", folder.toString()), null,
                    files.getJavaFileObjects(file)).call();
            System.out.print(said);
            return fine;
        }
    }

    private static void empty(Path folder) throws Exception {
        try (Stream<Path> inside = Files.walk(folder)) {
            for (Path path : inside.sorted(Comparator.reverseOrder()).collect(Collectors.toList())) {
                Files.delete(path);
            }
        }
    }
}
