import java.io.IOException;
import java.net.URL;
import java.net.URLClassLoader;
import java.nio.file.Files;
import java.nio.file.Path;
import java.util.function.BiConsumer;
import java.util.regex.Matcher;
import java.util.regex.Pattern;
import javax.tools.ToolProvider;

/** The lines of Java in README.md, compiled as one run of calls: each answers what is said behind it. */
public final class ReadmeTest {
    private static final Check CHECK = new Check();
    private static final Pattern SAID = Pattern.compile("(x\\.\\w+\\(.*\\)); +// (-?\\d+|[A-Z]+):.*");

    public static void main(String[] args) throws IOException, ReflectiveOperationException {
        String page = Files.readString(Path.of("README.md"));
        StringBuilder run = new StringBuilder("public final class ReadmeRun {\n");
        run.append("public static void run(java.util.function.BiConsumer<String, long[]> due) {\n");
        int said = 0;
        Matcher block = Pattern.compile("(?s)```java\n(.*?)```").matcher(page);
        while (block.find()) {
            for (String line : block.group(1).split("\n")) {
                Matcher call = SAID.matcher(line);
                if (call.matches()) {
                    said++;
                    run.append(asked(call.group(1), call.group(2)));
                } else {
                    CHECK.holds("a remark tells an answer: " + line, !line.contains("//"));
                    run.append(line).append('\n');
                }
            }
        }
        CHECK.holds("calls are told", said > 0);
        go(run.append("}\n}\n").toString());
        CHECK.end();
    }

    private static String asked(String call, String answer) {
        String want = answer.matches("[A-Z]+") ? "VineGarden." + answer : answer;
        return "due.accept(\"" + call + "\", new long[] {" + call + ", " + want + "});\n";
    }

    private static void go(String source) throws IOException, ReflectiveOperationException {
        Path out = Files.createTempDirectory("readme");
        Path file = out.resolve("ReadmeRun.java");
        Path compiled = out.resolve("ReadmeRun.class");
        try {
            Files.writeString(file, source);
            String[] how = {"-d", out.toString(), "-cp", System.getProperty("java.class.path"), file.toString()};
            CHECK.due("compiled", ToolProvider.getSystemJavaCompiler().run(null, null, null, how), 0);
            run(out);
        } finally {
            Files.deleteIfExists(compiled);
            Files.deleteIfExists(file);
            Files.deleteIfExists(out);
        }
    }

    private static void run(Path out) throws IOException, ReflectiveOperationException {
        BiConsumer<String, long[]> due = (call, pair) -> CHECK.due(call, pair[0], pair[1]);
        try (URLClassLoader loader = new URLClassLoader(new URL[] {out.toUri().toURL()})) {
            loader.loadClass("ReadmeRun").getMethod("run", BiConsumer.class).invoke(null, due);
        }
    }
}
