import java.io.File;
import java.io.IOException;
import java.lang.reflect.Method;
import java.lang.reflect.Modifier;
import java.net.URL;
import java.net.URLClassLoader;
import java.nio.file.Files;
import java.nio.file.Path;
import java.util.Map;
import java.util.TreeMap;
import java.util.regex.Matcher;
import java.util.regex.Pattern;
import javax.tools.ToolProvider;

/** README.md's example answers what it tells, and the page names each call and each file of the tests. */
public final class ReadmeTest {
    private static final String EXAMPLE = "ReadmeExample";
    private static final Pattern BLOCK = Pattern.compile("```java\n(.*?)```", Pattern.DOTALL);

    // A line of the example: what is answered is kept by a name, and told behind the line.
    private static final Pattern ANSWER = Pattern.compile("(?m)^\\w+ (\\w+) = theatre\\..*; +// ([^:]+): ");

    private ReadmeTest() {
    }

    private static Map<String, String> answersTold(String block) {
        Map<String, String> told = new TreeMap<>();
        Matcher m = ANSWER.matcher(block);
        while (m.find()) {
            told.put(m.group(1), m.group(2));
        }
        return told;
    }

    /** The example as the body of a method that answers what it has kept, by the names. */
    private static String program(String block, Iterable<String> names) {
        StringBuilder b = new StringBuilder();
        b.append("public final class ").append(EXAMPLE).append(" {\n");
        b.append("public static java.util.Map<String, String> run() {\n").append(block);
        b.append("java.util.Map<String, String> kept = new java.util.TreeMap<>();\n");
        for (String name : names) {
            b.append("kept.put(\"").append(name).append("\", String.valueOf(").append(name).append("));\n");
        }
        return b.append("return kept;\n}\n}\n").toString();
    }

    private static Object answersGiven(String program) throws IOException, ReflectiveOperationException {
        Path folder = Files.createTempDirectory("readme");
        Path source = folder.resolve(EXAMPLE + ".java");
        Path compiled = folder.resolve(EXAMPLE + ".class");
        try {
            Files.writeString(source, program);
            int wrong = ToolProvider.getSystemJavaCompiler().run(null, null, null,
                "-cp", System.getProperty("java.class.path"), "-d", folder.toString(), source.toString());
            Due.answer("the example compiles", wrong, 0);
            try (URLClassLoader loader = new URLClassLoader(new URL[] {folder.toUri().toURL()})) {
                return loader.loadClass(EXAMPLE).getMethod("run").invoke(null);
            }
        } finally {
            Files.deleteIfExists(source);
            Files.deleteIfExists(compiled);
            Files.deleteIfExists(folder);
        }
    }

    private static void example(String readme) throws IOException, ReflectiveOperationException {
        Matcher m = BLOCK.matcher(readme);
        Due.answer("there is an example", m.find(), true);
        String block = m.group(1);
        Map<String, String> told = answersTold(block);
        Due.answer("each line of the example but the first tells an answer", told.size(),
            (int) block.lines().count() - 1);
        Due.answer("the example", answersGiven(program(block, told.keySet())), told);
    }

    private static void names(String readme) {
        for (Method m : CoatHooks.class.getDeclaredMethods()) {
            if (Modifier.isPublic(m.getModifiers())) {
                Due.answer("the page names " + m.getName(), readme.contains("`" + m.getName() + "`"), true);
            }
        }
        for (File file : new File("src/test/java").listFiles()) {
            String name = file.getName().replace(".java", "");
            Due.answer("the page names " + name, readme.contains("`" + name + "`"), true);
        }
    }

    public static void main(String[] args) throws IOException, ReflectiveOperationException {
        String readme = Files.readString(Path.of("README.md"));
        example(readme);
        names(readme);
        Due.end("ReadmeTest");
    }
}
