import java.io.IOException;
import java.lang.reflect.Method;
import java.nio.file.Files;
import java.nio.file.Path;
import java.util.regex.Matcher;
import java.util.regex.Pattern;
import javax.tools.ToolProvider;

/** README.md: its example compiles and answers what the comments beside it say, and its table has every call. */
public final class ReadmeTest extends Checks {

    private static final Pattern EXAMPLE = Pattern.compile("```java\n(.*?)```", Pattern.DOTALL);
    private static final Pattern ANSWERED = Pattern.compile("(desk\\..*);\\s*// (true|false|-?\\d+)(:.*)?");

    /** How many lines of the example tell their answer: that none is passed over in silence. */
    private static int told = 0;

    public static void main(String[] args) throws Exception {
        about = "README.md";
        String readme = Files.readString(Path.of("README.md"));
        Matcher example = EXAMPLE.matcher(readme);
        if (example.find()) {
            run(sourceOf(example.group(1)));
            due("lines of the example that tell their answer", told, 20);
        } else {
            fault("there is no example");
        }
        for (Method m : AuditDesk.class.getDeclaredMethods()) {
            if (java.lang.reflect.Modifier.isPublic(m.getModifiers())) {
                due("the table has " + m.getName(), readme.contains("\n| `" + m.getName() + "("), true);
            }
        }
        finish("README.md says what is so");
    }

    private static String sourceOf(String example) {
        StringBuilder source = new StringBuilder("class Example extends Checks { static void run() {\n");
        for (String line : example.split("\n")) {
            Matcher answered = ANSWERED.matcher(line.strip());
            if (answered.matches()) {
                told++;
                source.append("due(\"").append(answered.group(1)).append("\", ").append(answered.group(1));
                source.append(", ").append(answered.group(2)).append(");\n");
            } else {
                source.append(line).append('\n');
            }
        }
        return source.append("} }\n").toString();
    }

    private static void run(String source) throws Exception {
        Path room = Files.createTempDirectory("readme");
        Path file = Files.writeString(room.resolve("Example.java"), source);
        // Into the tests' own directory, since a class without a package sees only those of its own loader.
        Path classes = Path.of(ReadmeTest.class.getProtectionDomain().getCodeSource().getLocation().toURI());
        int failed = ToolProvider.getSystemJavaCompiler().run(null, null, null,
                "-cp", classes.toString(), "-d", classes.toString(), file.toString());
        forget(file, room);
        if (failed != 0) {
            fault("the example does not compile");
            return;
        }
        Method example = Class.forName("Example").getDeclaredMethod("run");
        example.setAccessible(true);
        example.invoke(null);
    }

    private static void forget(Path... files) throws IOException {
        for (Path file : files) {
            Files.delete(file);
        }
    }
}
