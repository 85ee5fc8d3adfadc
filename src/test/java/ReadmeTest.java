import java.io.File;
import java.io.IOException;
import java.lang.reflect.Method;
import java.net.URL;
import java.net.URLClassLoader;
import java.nio.file.Files;
import java.nio.file.Path;
import java.util.ArrayList;
import java.util.List;
import java.util.function.BiConsumer;
import java.util.regex.Matcher;
import java.util.regex.Pattern;
import javax.tools.ToolProvider;

/** What README.md says: its examples run as they stand, and it names each method, each test and each promise. */
public final class ReadmeTest {
    private static final Pattern BLOCK = Pattern.compile("(?s)```java\n(.*?)```");
    /** A call with the answer that README.md gives behind it. */
    private static final Pattern ANSWERED = Pattern.compile("(?m)^( *)(x\\..*\\));\\s+// (-?\\d+)\\b.*$");
    private static final int PROMISES = 46;

    public static void main(String[] args) throws Exception {
        String readme = Files.readString(Path.of("README.md"));
        examples(readme);
        methods(readme);
        tests(readme);
        promises(readme);
        Due.end();
    }

    /** The examples come to a class of their own, since a reader would paste them into one. */
    private static void examples(String readme) throws Exception {
        StringBuilder body = new StringBuilder();
        int answers = 0;
        Matcher block = BLOCK.matcher(readme);
        while (block.find()) {
            Matcher m = ANSWERED.matcher(block.group(1));
            body.append("{\n").append(m.replaceAll("$1due.accept(\"$2\".trim(), new long[] {$2, $3});")).append("}\n");
            answers += (int) m.reset().results().count();
        }
        Due.due("README.md has examples", answers > 20 ? 1 : 0, 1);
        Path folder = Files.createTempDirectory("readme");
        Path source = folder.resolve("Example.java");
        Files.writeString(source, "public final class Example {\n"
            + "public static void run(java.util.function.BiConsumer<String, long[]> due) {\n" + body + "}\n}\n");
        int failed = ToolProvider.getSystemJavaCompiler().run(null, null, null,
            "-cp", System.getProperty("java.class.path"), "-d", folder.toString(), source.toString());
        Due.due("the examples compile", failed, 0);
        if (failed == 0) {
            run(folder);
        }
        delete(folder);
    }

    private static void run(Path folder) throws Exception {
        BiConsumer<String, long[]> due = (call, answer) -> Due.due("README.md: " + call, answer[0], answer[1]);
        try (URLClassLoader loader = new URLClassLoader(new URL[] {folder.toUri().toURL()})) {
            loader.loadClass("Example").getMethod("run", BiConsumer.class).invoke(null, due);
        }
    }

    private static void delete(Path folder) throws IOException {
        for (File file : folder.toFile().listFiles()) {
            Files.delete(file.toPath());
        }
        Files.delete(folder);
    }

    private static void methods(String readme) {
        for (Method m : PaidInLeaves.class.getDeclaredMethods()) {
            if (java.lang.reflect.Modifier.isPublic(m.getModifiers())) {
                String head = "`" + m.getName() + "(";
                Due.due("README.md tells of " + m.getName(), readme.contains(head) ? 1 : 0, 1);
            }
        }
    }

    private static void tests(String readme) {
        for (File file : new File("src/test/java").listFiles()) {
            String name = file.getName().replace(".java", "");
            if (name.endsWith("Test")) {
                Due.due("README.md tells of " + name, readme.contains("| " + name + " |") ? 1 : 0, 1);
            }
        }
    }

    /** Each promise has a test in the table. */
    private static void promises(String readme) {
        List<Integer> told = new ArrayList<>();
        Matcher row = Pattern.compile("(?m)^\\| \\w+Test \\| ([0-9 to,]+) \\|$").matcher(readme);
        while (row.find()) {
            for (String part : row.group(1).split(",")) {
                String[] ends = part.trim().split(" to ");
                for (int p = Integer.parseInt(ends[0]); p <= Integer.parseInt(ends[ends.length - 1]); p++) {
                    told.add(p);
                }
            }
        }
        for (int p = 1; p <= PROMISES; p++) {
            Due.due("README.md tells who tests promise " + p, told.contains(p) ? 1 : 0, 1);
        }
    }
}
