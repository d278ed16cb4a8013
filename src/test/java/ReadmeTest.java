import java.io.IOException;
import java.lang.reflect.Method;
import java.lang.reflect.Modifier;
import java.net.URL;
import java.net.URLClassLoader;
import java.nio.charset.StandardCharsets;
import java.nio.file.Files;
import java.nio.file.Path;
import java.util.regex.Matcher;
import java.util.regex.Pattern;
import javax.tools.ToolProvider;

/** README.md tells the truth: its example compiles and answers as it says, its table has every call; -Dreadme names it. */
public final class ReadmeTest {
    private static final Pattern ANSWERED = Pattern.compile("(x\\..*\\));\\s*// (-?\\d+|true|false): .*");
    private static final Pattern THROWN = Pattern.compile("(x\\..*\\));\\s*// throws (\\w+): .*");
    private static final Due due = new Due();

    public static void main(String[] args) throws IOException, ReflectiveOperationException {
        String readme = Files.readString(Path.of(System.getProperty("readme", "README.md")), StandardCharsets.UTF_8);
        example(readme);
        for (Method each : WaveWalk.class.getDeclaredMethods()) {
            if (Modifier.isPublic(each.getModifiers())) {
                due.isTrue("the table has " + each, rowOf(each).matcher(readme).find());
            }
        }
        due.end();
    }

    private static Pattern rowOf(Method call) {
        StringBuilder row = new StringBuilder("(?m)^\\| `" + call.getReturnType() + " " + call.getName() + "\\(");
        for (int i = 0; i < call.getParameterCount(); i++) {
            row.append(i > 0 ? ", " : "").append(call.getParameterTypes()[i]).append(" \\w+");
        }
        return Pattern.compile(row + "\\)` \\| .+ \\|$");
    }

    private static void example(String readme) throws IOException, ReflectiveOperationException {
        Matcher block = Pattern.compile("(?s)```java\n(.*?)```").matcher(readme);
        if (!block.find()) {
            due.tell("there is no example");
            return;
        }
        Path room = Files.createTempDirectory("readme");
        Path file = room.resolve("ReadmeExample.java");
        Files.writeString(file, asProgram(block.group(1)), StandardCharsets.UTF_8);
        int ended = ToolProvider.getSystemJavaCompiler().run(null, null, null,
            "-cp", System.getProperty("java.class.path"), "-d", room.toString(), file.toString());
        due.is("the example compiles", ended, 0);
        if (ended == 0) {
            runIn(room);
        }
        for (String name : new String[] {"ReadmeExample.java", "ReadmeExample.class"}) {
            Files.deleteIfExists(room.resolve(name));
        }
        Files.delete(room);
    }

    private static void runIn(Path room) throws IOException, ReflectiveOperationException {
        try (URLClassLoader loader = new URLClassLoader(new URL[] {room.toUri().toURL()})) {
            String[] lines = (String[]) loader.loadClass("ReadmeExample").getField("TOLD").get(null);
            for (int i = 0; i < lines.length; i += 3) {
                due.isTrue(lines[i] + " answered " + lines[i + 1] + ", README.md says " + lines[i + 2] + ": like", lines[i + 1].equals(lines[i + 2]));
            }
            due.isTrue("the example tells answers", lines.length >= 3);
        }
    }

    /** The example with each told answer kept: the call, what it answered, what README.md says. */
    private static String asProgram(String example) {
        StringBuilder body = new StringBuilder();
        for (String line : example.split("\n")) {
            Matcher answered = ANSWERED.matcher(line);
            Matcher thrown = THROWN.matcher(line);
            if (answered.matches()) {
                body.append(keep(answered.group(1), "\"\" + " + answered.group(1), answered.group(2)));
            } else if (thrown.matches()) {
                body.append("try { ").append(keep(thrown.group(1), "\"\" + " + thrown.group(1), thrown.group(2)));
                body.append("} catch (RuntimeException e) { ");
                body.append(keep(thrown.group(1), "e.getClass().getSimpleName()", thrown.group(2))).append("}\n");
            } else {
                body.append(line).append('\n');
            }
        }
        return "public final class ReadmeExample {\n"
            + "public static final String[] TOLD = told();\n"
            + "private static String[] told() {\njava.util.List<String> all = new java.util.ArrayList<>();\n"
            + body + "return all.toArray(new String[0]);\n}\n}\n";
    }

    private static String keep(String call, String answer, String said) {
        return "all.addAll(java.util.List.of(\"" + call + "\", " + answer + ", \"" + said + "\"));\n";
    }
}
