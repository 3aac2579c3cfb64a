import java.io.IOException;
import java.lang.reflect.Method;
import java.lang.reflect.Modifier;
import java.net.URL;
import java.net.URLClassLoader;
import java.nio.file.Files;
import java.nio.file.Path;
import java.util.ArrayList;
import java.util.List;
import java.util.regex.Matcher;
import java.util.regex.Pattern;
import javax.tools.JavaCompiler;
import javax.tools.ToolProvider;

/** What README.md says of the class is so: its example, answer by answer, and its table of calls. Run from the project's root. */
public final class ReadmeTest {
    private static final Check CHECK = new Check("ReadmeTest");
    private static final Path README = Path.of("README.md");
    /** A call, over several lines maybe, with the answer behind it. */
    private static final Pattern ANSWERED = Pattern.compile(
            "(?m)^([\\w.]+\\((?:\"[^\"]*\"|[^;\"])*\\));[ ]*// (true|false|-?\\d+).*$");

    public static void main(String[] args) throws Exception {
        String page = Files.readString(README);
        List<String> blocks = new ArrayList<>();
        Matcher block = Pattern.compile("(?s)```java\n(.*?)```").matcher(page);
        while (block.find()) {
            blocks.add(block.group(1));
        }
        CHECK.due("blocks of Java", blocks.size(), 2);
        if (blocks.size() == 2) {
            example(blocks.get(0), blocks.get(1));
        }
        callsAreInTable(page);
        CHECK.close();
    }

    private static void example(String helper, String run) throws Exception {
        StringBuilder body = new StringBuilder();
        Matcher call = ANSWERED.matcher(run);
        int calls = 0;
        while (call.find()) {
            String shown = call.group(1).replace("\"", "'").replaceAll("\\s+", " ");
            call.appendReplacement(body, Matcher.quoteReplacement(
                    "if (" + call.group(1) + " != " + call.group(2) + ") { wrong.add(\"" + shown + "\"); }\n"));
            calls++;
        }
        call.appendTail(body);
        // But for the line that makes the object, every call has its answer.
        CHECK.due("calls with an answer", calls, Pattern.compile(";(?=[ ]*(?://|\n))").matcher(run).results().count() - 1);
        String source = "public final class ReadmeRun {\n" + helper
                + "public static void run(java.util.List<String> wrong) {\n" + body + "}\n}\n";
        for (String wrong : wrongAnswers(source)) {
            CHECK.due("README.md's answer of " + wrong + " is right", false, true);
        }
    }

    private static List<String> wrongAnswers(String source) throws Exception {
        List<String> wrong = new ArrayList<>();
        Path out = Files.createTempDirectory("readme");
        Path file = Files.writeString(out.resolve("ReadmeRun.java"), source);
        JavaCompiler compiler = ToolProvider.getSystemJavaCompiler();
        int failed = compiler.run(null, null, null, "-cp", System.getProperty("java.class.path"), "-d", out.toString(), file.toString());
        CHECK.due("compiling README.md's example", failed, 0);
        if (failed == 0) {
            try (URLClassLoader loader = new URLClassLoader(new URL[] {out.toUri().toURL()})) {
                loader.loadClass("ReadmeRun").getMethod("run", List.class).invoke(null, wrong);
            }
        }
        delete(out);
        return wrong;
    }

    private static void delete(Path directory) throws IOException {
        try (var files = Files.list(directory)) {
            for (Path file : files.toList()) {
                Files.delete(file);
            }
        }
        Files.delete(directory);
    }

    private static void callsAreInTable(String page) {
        String table = page.replaceFirst("(?s)^.*?\\| for \\| calls \\|\n(.*?)\n\n.*$", "$1");
        for (Method m : PepperTables.class.getDeclaredMethods()) {
            if (Modifier.isPublic(m.getModifiers())) {
                CHECK.due("README.md's table has " + m.getName(), table.contains("`" + m.getName() + "`"), true);
            }
        }
    }
}
