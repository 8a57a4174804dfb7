import java.lang.reflect.InvocationTargetException;
import java.net.URL;
import java.net.URLClassLoader;
import java.nio.file.Files;
import java.nio.file.Path;
import java.util.Comparator;
import java.util.List;
import java.util.regex.Matcher;
import java.util.regex.Pattern;
import java.util.stream.Stream;
import javax.tools.ToolProvider;

/** README.md's examples compile, and each call there answers what stands beside it; its tables name all there is. */
public final class ReadmeTest {
    private static final Pattern BLOCK = Pattern.compile("(?s)```java\n(.*?)```");
    private static final Pattern ANSWERED = Pattern.compile("(.*\\)); *// (-?\\d+|true|false): .*");

    public static void main(String[] args) throws Exception {
        String text = Files.readString(Path.of("README.md"));
        examples(text);
        tables(text);
        Check.end("ReadmeTest");
    }

    private static void examples(String text) throws Exception {
        StringBuilder methods = new StringBuilder();
        StringBuilder lines = new StringBuilder();
        Matcher block = BLOCK.matcher(text);
        while (block.find()) {
            if (block.group(1).startsWith("static ")) {
                methods.append(block.group(1));
            } else {
                block.group(1).lines().map(ReadmeTest::checked).forEach(lines::append);
            }
        }
        Path folder = Files.createTempDirectory("readme");
        try {
            run(folder, "public class ReadmeExample {\n" + methods
                + "public static java.util.List<Object[]> run() {\n"
                + "java.util.List<Object[]> answers = new java.util.ArrayList<>();\n" + lines
                + "return answers;\n}\n}\n");
        } finally {
            delete(folder);
        }
    }

    private static String checked(String line) {
        Matcher answered = ANSWERED.matcher(line);
        if (!answered.matches()) {
            return line + "\n";
        }
        String call = answered.group(1);
        String quoted = "\"" + call.replace("\"", "\\\"") + "\"";
        return "answers.add(new Object[] {" + quoted + ", " + call + ", " + answered.group(2) + "});\n";
    }

    private static void run(Path folder, String source) throws Exception {
        Path file = folder.resolve("ReadmeExample.java");
        Files.writeString(file, source);
        String path = System.getProperty("java.class.path");
        int compiled = ToolProvider.getSystemJavaCompiler().run(null, null, null, "-cp", path, "-d", folder.toString(),
            file.toString());
        Check.due("the examples compile", compiled, 0);
        if (compiled != 0) {
            return;
        }
        try (URLClassLoader loader = new URLClassLoader(new URL[] {folder.toUri().toURL()})) {
            List<?> answers = (List<?>) loader.loadClass("ReadmeExample").getMethod("run").invoke(null);
            Check.due("answers beside the calls", answers.size() >= 20, true);
            for (Object answer : answers) {
                Object[] one = (Object[]) answer;
                Check.due(one[0] + " answered " + one[1] + ", README.md has " + one[2], one[1].equals(one[2]), true);
            }
        } catch (InvocationTargetException e) {
            Check.due("the examples threw " + e.getCause(), 1, 0);
        }
    }

    private static void delete(Path folder) throws Exception {
        try (Stream<Path> files = Files.walk(folder)) {
            for (Path file : (Iterable<Path>) files.sorted(Comparator.reverseOrder())::iterator) {
                Files.delete(file);
            }
        }
    }

    private static void tables(String text) throws Exception {
        List<String> rows = text.lines().filter(line -> line.startsWith("| ")).toList();
        for (java.lang.reflect.Method method : TwoEchoes.class.getDeclaredMethods()) {
            if (java.lang.reflect.Modifier.isPublic(method.getModifiers())) {
                String name = "`" + method.getName() + "`";
                Check.due(name + " in a table", rows.stream().filter(row -> row.contains(name)).count(), 1);
            }
        }
        try (Stream<Path> files = Files.list(Path.of("src/test/java"))) {
            for (Path file : (Iterable<Path>) files::iterator) {
                String name = file.getFileName().toString().replace(".java", "");
                boolean has = rows.stream().anyMatch(row -> Pattern.compile("\\b" + name + "\\b").matcher(row).find());
                Check.due(name + " in the table of tests", has, name.endsWith("Test"));
            }
        }
    }
}
