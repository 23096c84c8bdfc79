import java.io.IOException;
import java.lang.reflect.Method;
import java.lang.reflect.Modifier;
import java.net.URL;
import java.net.URLClassLoader;
import java.nio.file.Files;
import java.nio.file.Path;
import java.util.ArrayList;
import java.util.List;
import java.util.regex.Matcher;
import java.util.regex.Pattern;
import javax.tools.ToolProvider;

/** What README.md says: its examples are compiled and run, and must answer what is written behind their lines. */
public final class ReadmeTest {
    private static final Path WHERE = Path.of("build", "readme");
    private static final Pattern BLOCK = Pattern.compile("(?s)```java\n(.*?)```");
    private static final Pattern ANSWERED = Pattern.compile("(.*);\\s*// (-?\\d+)\\b.*");

    private static final List<String> calls = new ArrayList<>();
    private static final List<Long> wanted = new ArrayList<>();

    public static void main(String[] args) throws IOException, ReflectiveOperationException {
        String text = Files.readString(Path.of("README.md"));
        everyCallIsNamed(text);
        String program = program(text);
        long[] got = run(program);
        Due.due("answers written in README.md", true, wanted.size() >= 10);
        for (int at = 0; at < got.length; at++) {
            Due.due("README.md: " + calls.get(at), wanted.get(at), got[at]);
        }
        Due.end();
    }

    private static void everyCallIsNamed(String text) {
        for (Method method : Songlinebench.class.getDeclaredMethods()) {
            if (Modifier.isPublic(method.getModifiers())) {
                Due.due("README.md names " + method.getName(), true, text.contains("`" + method.getName() + "(..)`"));
            }
        }
    }

    /** All examples together, as each goes on where the one ahead of it ended. */
    private static String program(String text) {
        StringBuilder lines = new StringBuilder();
        Matcher block = BLOCK.matcher(text);
        while (block.find()) {
            for (String line : block.group(1).split("\n")) {
                Matcher answered = ANSWERED.matcher(line);
                if (answered.matches()) {
                    lines.append("got[").append(calls.size()).append("] = ").append(answered.group(1)).append(";\n");
                    calls.add(answered.group(1));
                    wanted.add(Long.valueOf(answered.group(2)));
                } else {
                    lines.append(line).append('\n');
                }
            }
        }
        return "public final class ReadmeExample {\npublic static long[] answers() {\nlong[] got = new long["
                + calls.size() + "];\n" + lines + "return got;\n}\n}\n";
    }

    private static long[] run(String program) throws IOException, ReflectiveOperationException {
        Files.createDirectories(WHERE);
        Path file = WHERE.resolve("ReadmeExample.java");
        Files.writeString(file, program);
        int failed = ToolProvider.getSystemJavaCompiler().run(null, null, null, "-cp",
                System.getProperty("java.class.path"), "-d", WHERE.toString(), file.toString());
        Due.due("compiling the examples", 0, failed);
        if (failed != 0) {
            return new long[0];
        }
        URL[] where = {WHERE.toUri().toURL()};
        try (URLClassLoader loader = new URLClassLoader(where)) {
            return (long[]) loader.loadClass("ReadmeExample").getMethod("answers").invoke(null);
        }
    }
}
