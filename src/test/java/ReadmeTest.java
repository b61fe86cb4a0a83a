import java.lang.reflect.Method;
import java.lang.reflect.Modifier;
import java.net.URL;
import java.net.URLClassLoader;
import java.nio.file.Files;
import java.nio.file.Path;
import java.util.ArrayList;
import java.util.List;
import java.util.regex.Matcher;
import java.util.regex.Pattern;
import java.util.stream.Collectors;
import java.util.stream.Stream;
import javax.tools.ToolProvider;

/** README.md: the answers of its example are those of the class, and it leaves nothing out. */
public final class ReadmeTest extends Due {
    private static final Pattern BLOCK = Pattern.compile("(?s)```java\n(.*?)```");
    /** A call alone or kept under a name, and behind it the answer that it is said to give. */
    private static final Pattern ANSWERED =
        Pattern.compile("(?:int (\\w+) = )?(.*\\));\\s+// (-?\\d+|true|false)\\b.*");

    public static void main(String[] args) throws Exception {
        String readme = Files.readString(Path.of("README.md"));
        String example = blocks(readme, false);
        holdAnswers(example, blocks(readme, true));
        namesCalls(example);
        namesClasses(readme);
        namesTests(readme);
        finish();
    }

    /** The blocks of Java in a text: those that are methods, or the others. */
    private static String blocks(String text, boolean methods) {
        return BLOCK.matcher(text).results().map(found -> found.group(1))
            .filter(block -> block.startsWith("static ") == methods).collect(Collectors.joining());
    }

    /** The example becomes a method that keeps every answer, so that each can be held against its line. */
    private static void holdAnswers(String example, String methods) throws Exception {
        List<String> calls = new ArrayList<>();
        List<String> wants = new ArrayList<>();
        StringBuilder code = new StringBuilder("public final class Example {\n").append(methods)
            .append("public static void run(java.util.List<Object> got) {\n");
        for (String line : example.split("\n")) {
            Matcher found = ANSWERED.matcher(line);
            if (!found.matches()) {
                due("only a new object has no answer: " + line, line.contains("= new CrossDawn();"), true);
                code.append(line).append("\n");
                continue;
            }
            boolean kept = found.group(1) != null;
            code.append(kept ? line + "\n" : "");
            code.append("got.add(").append(kept ? found.group(1) : found.group(2)).append(");\n");
            calls.add(found.group(2));
            wants.add(found.group(3));
        }
        List<Object> got = run(code.append("}\n}\n").toString());
        due("number of answers", got.size(), wants.size());
        for (int i = 0; i < got.size(); i++) {
            due(calls.get(i), got.get(i).toString(), wants.get(i));
        }
    }

    private static List<Object> run(String code) throws Exception {
        List<Object> got = new ArrayList<>();
        Path out = Files.createTempDirectory("readme");
        Path source = Files.writeString(out.resolve("Example.java"), code);
        int errors = ToolProvider.getSystemJavaCompiler().run(null, null, null,
            "-cp", System.getProperty("java.class.path"), "-d", out.toString(), source.toString());
        due("errors in the example", errors, 0);
        if (errors == 0) {
            try (URLClassLoader loader = new URLClassLoader(new URL[] {out.toUri().toURL()})) {
                loader.loadClass("Example").getMethod("run", List.class).invoke(null, got);
            }
        }
        Files.deleteIfExists(out.resolve("Example.class"));
        Files.delete(source);
        Files.delete(out);
        return got;
    }

    private static void namesCalls(String example) {
        for (Method method : CrossDawn.class.getDeclaredMethods()) {
            if (Modifier.isPublic(method.getModifiers())) {
                due("the example calls " + method, example.contains("land." + method.getName() + "("), true);
            }
        }
    }

    private static void namesClasses(String readme) {
        for (Class<?> inside : CrossDawn.class.getDeclaredClasses()) {
            due("what it holds: " + inside, readme.contains("`" + inside.getSimpleName() + "`"), true);
        }
    }

    private static void namesTests(String readme) throws Exception {
        try (Stream<Path> tests = Files.list(Path.of("src/test/java"))) {
            for (Path test : tests.collect(Collectors.toList())) {
                String name = test.getFileName().toString().replace(".java", "");
                due("what it is for: " + name, readme.contains("| `" + name + "` |"), true);
            }
        }
    }
}
