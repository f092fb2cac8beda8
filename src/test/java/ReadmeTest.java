import java.io.IOException;
import java.lang.reflect.Method;
import java.lang.reflect.Modifier;
import java.nio.file.Files;
import java.nio.file.Path;
import java.util.List;
import java.util.regex.Matcher;
import java.util.regex.Pattern;
import java.util.stream.Stream;
import javax.tools.JavaCompiler;
import javax.tools.ToolProvider;

/** README.md says how to use the class (every call is named, its example compiles) and how to run every test. */
public final class ReadmeTest {
    private static final Due due = new Due();

    public static void main(String[] args) throws IOException {
        String readme = Files.readString(Path.of("README.md"));
        due.part("how to use the class");
        for (Method m : NightGarrison.class.getDeclaredMethods()) {
            if (Modifier.isPublic(m.getModifiers())) {
                due.isTrue("README.md names " + m.getName(), readme.contains("`" + m.getName() + "`"));
            }
        }
        for (String refusal : List.of("-1 ", "-2 ", "-3", "-5 ", "-11 ", "-12", "-13 ", "-14", "Long.MIN_VALUE")) {
            due.isTrue("README.md tells the refusal " + refusal, readme.contains(refusal));
        }
        example(readme);
        due.part("how to run its tests");
        due.isTrue("README.md names .ci/run", readme.contains("`.ci/run`"));
        try (Stream<Path> files = Files.list(Path.of("src/test/java"))) {
            for (String name : files.map(file -> file.getFileName().toString()).sorted().toList()) {
                if (name.endsWith("Test.java")) {
                    due.isTrue("README.md names " + name, readme.contains("`" + name.replace(".java", "") + "`"));
                }
            }
        }
        due.end();
    }

    private static void example(String readme) throws IOException {
        Matcher m = Pattern.compile("(?s)```java\n(.*?)```").matcher(readme);
        due.isTrue("README.md has an example", m.find());
        Path folder = Files.createTempDirectory("readme");
        Path file = folder.resolve("Example.java");
        Files.writeString(file, "class Example {\n    void use() {\n" + m.group(1) + "    }\n}\n");
        JavaCompiler compiler = ToolProvider.getSystemJavaCompiler();
        int wrong = compiler.run(null, null, null, "-d", folder.toString(), "src/main/java/NightGarrison.java", file.toString());
        due.is("javac of the example", wrong, 0);
        try (Stream<Path> made = Files.list(folder)) {
            for (Path one : made.toList()) {
                Files.delete(one);
            }
        }
        Files.delete(folder);
    }
}
