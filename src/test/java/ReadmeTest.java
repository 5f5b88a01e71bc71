import java.io.IOException;
import java.lang.reflect.InvocationTargetException;
import java.net.URISyntaxException;
import java.nio.file.Files;
import java.nio.file.Path;
import java.util.ArrayList;
import java.util.List;
import java.util.regex.Matcher;
import java.util.regex.Pattern;
import javax.tools.ToolProvider;

/** The README's example compiles, and each of its calls answers, or throws, as the comment behind it begins. */
public final class ReadmeTest {
    private static final Path README = Path.of("README.md");
    /** A call, with a name for its answer or without, and what it answers or throws. */
    private static final Pattern STATEMENT =
        Pattern.compile("(\\w+ (\\w+) = )?(.*); *// (-?\\d+|true|false|\\w+Exception):.*");
    private static final Pattern CALL = Pattern.compile("`(\\w+)`");

    private ReadmeTest() {
    }

    public static void main(String[] args) throws IOException, URISyntaxException, ReflectiveOperationException {
        List<String> lines = Files.readAllLines(README);
        Check check = new Check("ReadmeTest");
        everyCall(check, lines);
        String program = program(lines);
        Path classes = Path.of(ReadmeTest.class.getProtectionDomain().getCodeSource().getLocation().toURI());
        Path source = classes.resolve("Readme.java");
        Files.writeString(source, program);
        int failed = ToolProvider.getSystemJavaCompiler().run(null, null, null, "-cp", classes.toString(), "-d",
            classes.toString(), source.toString());
        check.same("the example compiles", failed, 0);
        if (failed == 0) {
            try {
                Class.forName("Readme").getDeclaredMethod("run", Check.class).invoke(null, check);
            } catch (InvocationTargetException e) {
                check.failed(e.getCause());
            }
        }
        check.end();
    }

    /** The rows of the table name the face's calls in their order. */
    private static void everyCall(Check check, List<String> lines) throws IOException {
        List<String> due = new ArrayList<>();
        Matcher declared = Pattern.compile("public \\w+ (\\w+)\\(").matcher(Files.readString(
            Path.of("src/main/java/Courtdocket.java")));
        while (declared.find()) {
            due.add(declared.group(1));
        }
        List<String> named = new ArrayList<>();
        for (String line : lines) {
            Matcher call = CALL.matcher(line);
            while (line.startsWith("| ") && call.find()) {
                named.add(call.group(1));
            }
        }
        check.same("the calls of the table", String.join(" ", named), String.join(" ", due));
    }

    /** The example as a class, with a check for each call that has an answer. */
    private static String program(List<String> lines) {
        StringBuilder text = new StringBuilder("final class Readme {\nstatic void run(Check check) {\n");
        boolean isCode = false;
        for (String line : lines) {
            if (line.startsWith("```")) {
                isCode = line.equals("```java");
                continue;
            }
            Matcher statement = STATEMENT.matcher(line);
            if (isCode && statement.matches()) {
                text.append(checked(statement)).append('\n');
            } else if (isCode) {
                text.append(line).append('\n');
            }
        }
        return text.append("}\n}\n").toString();
    }

    private static String checked(Matcher statement) {
        String call = statement.group(3);
        String due = statement.group(4);
        if (due.equals("IndexOutOfBoundsException")) {
            return "check.index(\"" + call + "\", court, () -> " + call + ");";
        }
        if (due.equals("IllegalArgumentException")) {
            return "check.argument(\"" + call + "\", court, () -> " + call + ");";
        }
        if (due.equals("IllegalStateException")) {
            return "check.state(\"" + call + "\", court, () -> " + call + ");";
        }
        if (statement.group(1) == null) {
            return "check.same(\"" + call + "\", " + call + ", " + due + ");";
        }
        return statement.group(1) + call + ";\ncheck.same(\"" + call + "\", " + statement.group(2) + ", " + due + ");";
    }
}
