import java.io.IOException;
import java.lang.reflect.Method;
import java.nio.file.Files;
import java.nio.file.Path;
import java.util.ArrayList;
import java.util.LinkedHashMap;
import java.util.List;
import java.util.Map;

/** What the tests quote stands in the document, and some test quotes words of each sentence of terms and promises. */
public final class DocumentTest {
    private static final Class<?>[] TESTS = {
        TermsDaysTest.class, TermsCasesTest.class, TermsEntriesTest.class, TermsOrdersTest.class,
        TermsPaymentsTest.class, TermsDeadlinesTest.class, TermsHearingsTest.class, TermsExhibitsTest.class,
        Promises01Test.class, Promises10Test.class, Promises16Test.class, Promises25Test.class, Promises35Test.class,
        Calls01Test.class, Calls25Test.class,
    };
    /** A heading that the document does not mark as one. */
    private static final String CASES = "Cases, parties, claims";
    private static final List<String> TERMS = List.of("Terms", "Days", CASES, "The docket", "Deadlines", "Hearings",
        "Juries", "Exhibits", "Seals", "Classes");
    /** What stands ahead of the first sentence of a promise. */
    private static final String SIGNATURE = "^`[^`]*\\([^`]*`: ";

    /** The sentences under each heading. */
    private final Map<String, List<String>> document = new LinkedHashMap<>();
    /** The tests that quote words under each heading. */
    private final Map<String, List<Method>> tests = new LinkedHashMap<>();
    private int wrong;

    private DocumentTest() {
    }

    /** With a second argument, tells each sentence of the document, and the tests that quote it. */
    public static void main(String[] args) throws IOException {
        Path path = Path.of(args.length > 0 ? args[0] : "../shared/DOC.md");
        if (!Files.exists(path)) {
            System.out.println("DocumentTest: there is no " + path + " to look at");
            return;
        }
        DocumentTest test = new DocumentTest();
        test.read(Files.readAllLines(path));
        int count = test.quoteAll();
        test.everySentence(args.length > 1);
        System.out.println("DocumentTest: " + count + " tests quote the document, " + test.wrong + " things are wrong");
        if (test.wrong > 0 || count == 0) {
            System.exit(1);
        }
    }

    private void read(List<String> lines) {
        String heading = "";
        StringBuilder text = new StringBuilder();
        boolean isCode = false;
        for (String line : lines) {
            if (line.startsWith("```")) {
                isCode = !isCode;
            } else if (isHeading(line)) {
                split(heading, text);
                heading = line.replaceAll("^#+ |:.*", "");
            } else if (line.isBlank() || line.startsWith("- ")) {
                split(heading, text);
            }
            if (!isCode && !isHeading(line)) {
                text.append(line.trim()).append(' ');
            }
        }
        split(heading, text);
    }

    private static boolean isHeading(String line) {
        return line.startsWith("#") || line.equals(CASES);
    }

    /** A paragraph's sentences end with a full stop, and none of a promise's lines is longer than a paragraph. */
    private void split(String heading, StringBuilder text) {
        for (String sentence : text.toString().split("(?<=\\.) (?=[A-Z])")) {
            if (!sentence.isBlank()) {
                document.computeIfAbsent(heading, key -> new ArrayList<>())
                    .add(sentence.trim().replaceAll("^- ", "").replaceAll(SIGNATURE, ""));
            }
        }
        text.setLength(0);
    }

    private int quoteAll() {
        int count = 0;
        for (Class<?> of : TESTS) {
            for (Method test : Sentences.testsOf(of)) {
                Says says = test.getAnnotation(Says.class);
                String text = String.join(" ", document.getOrDefault(says.at(), List.of()));
                if (!text.contains(says.value())) {
                    tell(name(test) + " quotes what is not said at", says.at(), says.value());
                }
                tests.computeIfAbsent(says.at(), key -> new ArrayList<>()).add(test);
                count++;
            }
        }
        return count;
    }

    private void everySentence(boolean isTold) {
        for (Map.Entry<String, List<String>> entry : document.entrySet()) {
            for (String sentence : entry.getValue()) {
                List<String> names = quoting(sentence, tests.getOrDefault(entry.getKey(), List.of()));
                if (isToBeTested(entry.getKey(), sentence) && names.isEmpty()) {
                    tell("no test quotes, at", entry.getKey(), sentence);
                }
                if (isTold) {
                    System.out.println(entry.getKey() + ": " + sentence + "\n    " + String.join("\n    ", names));
                }
            }
        }
    }

    /** What the interface says ahead of its calls is looked at by SourceTest. */
    private static boolean isToBeTested(String heading, String sentence) {
        boolean isMeant = heading.startsWith("Promise ") || TERMS.contains(heading);
        return isMeant && !sentence.contains("the interface says");
    }

    private static List<String> quoting(String sentence, List<Method> tests) {
        List<String> names = new ArrayList<>();
        for (Method test : tests) {
            String quote = test.getAnnotation(Says.class).value();
            if (quote.contains(sentence) || sentence.contains(quote)) {
                names.add(name(test));
            }
        }
        return names;
    }

    private static String name(Method test) {
        return test.getDeclaringClass().getSimpleName() + "." + test.getName();
    }

    private void tell(String what, String heading, String text) {
        wrong++;
        System.out.println("DocumentTest: " + what + " \"" + heading + "\": " + text);
    }
}
