import java.io.IOException;
import java.lang.reflect.Field;
import java.lang.reflect.Method;
import java.lang.reflect.Modifier;
import java.nio.file.Files;
import java.nio.file.Path;
import java.util.ArrayList;
import java.util.Arrays;
import java.util.List;
import java.util.regex.Matcher;
import java.util.regex.Pattern;

/** The source has the document's face, in its order and under its headings, and the words that LANGUAGE.md leaves. */
public final class SourceTest {
    private static final Path SOURCE = Path.of("src/main/java/Courtdocket.java");
    private static final Path DOCUMENT = Path.of("../shared/DOC.md");
    private static final Pattern HEADING = Pattern.compile("Ahead of the calls (.*) the interface says: (---- .*)\\.");
    private static final Pattern PUBLIC_METHOD = Pattern.compile("public \\w+ (\\w+)\\(");
    private static final Pattern LIBRARY = Pattern.compile("\\b[A-Z][a-z]\\w*\\.\\w+\\(");
    private static final Pattern NEW = Pattern.compile("\\bnew (\\w+)");

    /** What rules 1, 2, 5, 6, 8 and 10 leave out, and what this class has no need of. */
    private static final String[] UNUSED = {"import", "package", "->", "::", "synchronized", "assert", "try", "catch",
        "finally", "static {", "protected", "System", "Thread", "Object", "double", "float", "record", "Iterator"};
    private static final List<String> LIBRARIES = List.of("Math.max(", "Integer.bitCount(");
    private static final List<String> EXCEPTIONS = List.of("IllegalStateException", "IllegalArgumentException",
        "IndexOutOfBoundsException");
    private static final int MOST_LINES = 60, MOST_PARAMETERS = 7, MOST_CLASSES = 12, MOST_FIELDS = 20;

    private final Check check = new Check("SourceTest");
    private final String source;
    /** The source without comments and texts. */
    private final String code;

    private SourceTest(String source) {
        this.source = source;
        code = source.replaceAll("/\\*\\*(?s:.*?)\\*/|//.*", "").replaceAll("\"[^\"]*\"", "\"\"");
    }

    public static void main(String[] args) throws IOException {
        SourceTest test = new SourceTest(Files.readString(SOURCE));
        if (Files.exists(DOCUMENT)) {
            String document = Files.readString(DOCUMENT);
            test.face(document);
            test.headings(document);
        }
        test.words();
        test.library();
        test.sizes();
        test.check.end();
    }

    /** The declarations of the document stand in the source in their order. */
    private void face(String document) {
        String all = source.replaceAll("\\s+", " ");
        int from = 0;
        int count = 0;
        for (String line : document.split("\n")) {
            if (!line.matches(" {4}public .*;")) {
                continue;
            }
            String due = line.trim().replace(";", "");
            int at = all.indexOf(due, from);
            check.same(due + " stands in its place", at >= 0, true);
            from = Math.max(from, at);
            count++;
        }
        check.same("declarations", count, 3 + 1 + 51);
    }

    /** Under each heading of the interface stand the calls that the document names, and no other. */
    private void headings(String document) {
        Matcher heading = HEADING.matcher(document);
        int count = 0;
        while (heading.find()) {
            String due = heading.group(1).replaceAll("[`,]", "");
            int start = source.indexOf("// " + heading.group(2) + "\n");
            check.same("there is // " + heading.group(2), start >= 0, true);
            String under = source.substring(Math.max(start, 0)).split("\n *// ----", 2)[0];
            check.same("under " + heading.group(2), String.join(" ", found(PUBLIC_METHOD, under)), due);
            count++;
        }
        check.same("headings", count, 5);
    }

    private void words() {
        for (String word : UNUSED) {
            boolean isName = word.matches("\\w+");
            Pattern pattern = Pattern.compile(isName ? "\\b" + word + "\\b" : Pattern.quote(word));
            check.same("no " + word, String.join(" ", found(pattern, code)), "");
        }
        check.same("signs 10 and 32 to 126 alone", source.matches("[\n -~]*"), true);
        check.same("no texts joined by +", code.matches("(?s).*(\"\" \\+|\\+ \"\").*"), false);
        check.same("static fields are final", found(Pattern.compile("static (?!final)[\\w\\[\\]]+ \\w+(?: =|;)"), code)
            .size(), 0);
    }

    private void library() {
        for (String call : found(LIBRARY, code)) {
            check.same(call, LIBRARIES.contains(call), true);
        }
        List<String> own = new ArrayList<>();
        for (Class<?> inside : Courtdocket.class.getDeclaredClasses()) {
            own.add(inside.getSimpleName());
        }
        for (String made : found(NEW, code)) {
            boolean isArray = made.equals("int") || made.equals("boolean");
            check.same("new " + made, isArray || own.contains(made) || EXCEPTIONS.contains(made), true);
        }
    }

    private void sizes() {
        List<Class<?>> classes = new ArrayList<>(List.of(Courtdocket.class.getDeclaredClasses()));
        classes.add(Courtdocket.class);
        check.same("classes", classes.size() <= MOST_CLASSES, true);
        for (Class<?> one : classes) {
            int fields = 0;
            for (Field field : one.getDeclaredFields()) {
                fields += Modifier.isStatic(field.getModifiers()) ? 0 : 1;
            }
            check.same("fields of " + one.getName(), fields <= MOST_FIELDS, true);
            for (Method method : one.getDeclaredMethods()) {
                check.same("parameters of " + method, method.getParameterCount() <= MOST_PARAMETERS, true);
            }
        }
        for (String text : methods()) {
            check.same("lines of " + text.lines().findFirst().orElse(""), text.lines().count() <= MOST_LINES, true);
        }
    }

    /** The methods: what stands, in a class, between a line with a bracket and the line that closes it. */
    private List<String> methods() {
        List<String> found = new ArrayList<>();
        String[] lines = source.split("\n");
        for (int first = 0; first < lines.length; first++) {
            String line = lines[first];
            if (!line.matches(" {4,8}[a-z][^=;]*\\([^;]*")) {
                continue;
            }
            String close = line.replaceAll("\\S.*", "") + "}";
            int last = first;
            while (last < lines.length - 1 && !lines[last].equals(close)) {
                last++;
            }
            found.add(String.join("\n", Arrays.copyOfRange(lines, first, last + 1)));
        }
        check.same("methods are found: " + found.size(), found.size() > 100, true);
        return found;
    }

    /** What a pattern finds: its first group, if it has one. */
    private static List<String> found(Pattern pattern, String text) {
        List<String> found = new ArrayList<>();
        Matcher matcher = pattern.matcher(text);
        while (matcher.find()) {
            found.add(matcher.group(Math.min(1, matcher.groupCount())));
        }
        return found;
    }
}
