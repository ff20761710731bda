import java.lang.reflect.Method;
import java.net.URL;
import java.net.URLClassLoader;
import java.nio.file.Files;
import java.nio.file.Path;
import java.util.regex.Matcher;
import java.util.regex.Pattern;
import javax.tools.ToolProvider;

/** The examples of README.md: they compile, and each call answers the number with which its comment begins. */
final class ReadmeTests {
    private static final Pattern BLOCK = Pattern.compile("(?s)```java\n(.*?)```");
    private static final Pattern ANSWERED = Pattern.compile("(x\\.(\\w+)\\(.*\\));\\s*// (-?\\d+)\\b.*");
    private static final int LEAST_ANSWERED = 20;

    private static int answered = 0;

    private ReadmeTests() {
    }

    static void run(String readme) throws Exception {
        String example = exampleOf(Files.readString(Path.of(readme)));
        Check.holds("README: calls with their answers: " + answered, answered >= LEAST_ANSWERED);
        Path out = Files.createTempDirectory("readme");
        Path file = out.resolve("ReadmeExample.java");
        Files.writeString(file, example);
        int exit = ToolProvider.getSystemJavaCompiler().run(null, null, null, "-d", out.toString(),
                "-cp", System.getProperty("java.class.path"), file.toString());
        Check.same("README: its examples compile", exit, 0);
        if (exit == 0) {
            runExample(out);
        }
        for (String left : new String[] {"ReadmeExample.class", "ReadmeExample.java"}) {
            Files.deleteIfExists(out.resolve(left));
        }
        Files.delete(out);
    }

    private static void runExample(Path out) throws Exception {
        try (URLClassLoader loader = new URLClassLoader(new URL[] {out.toUri().toURL()})) {
            Method all = loader.loadClass("ReadmeExample").getDeclaredMethod("all", TellsAnswer.class);
            all.invoke(null, (TellsAnswer) Check::same);
        }
    }

    /** How the example, of a loader of its own, comes to the checks of this one. */
    public interface TellsAnswer {
        void same(String what, long got, long due);
    }

    /** All blocks in their order make one program; those that begin with a method stand beside it. */
    private static String exampleOf(String readme) {
        StringBuilder methods = new StringBuilder();
        StringBuilder body = new StringBuilder();
        Matcher block = BLOCK.matcher(readme);
        while (block.find()) {
            if (block.group(1).startsWith("static ")) {
                methods.append(block.group(1));
            } else {
                for (String line : block.group(1).split("\n")) {
                    body.append(checked(line)).append('\n');
                }
            }
        }
        return "public class ReadmeExample {\n" + methods + "public static void all(ReadmeTests.TellsAnswer due) {\n"
                + body + "}\n}\n";
    }

    private static String checked(String line) {
        Matcher call = ANSWERED.matcher(line);
        if (!call.matches()) {
            return line;
        }
        answered++;
        return "due.same(\"README: " + call.group(1) + "\", " + call.group(1) + ", " + call.group(3) + "L);";
    }
}
