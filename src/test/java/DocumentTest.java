import java.lang.reflect.Method;
import java.nio.charset.StandardCharsets;
import java.nio.file.Files;
import java.nio.file.Path;
import java.util.ArrayList;
import java.util.HashSet;
import java.util.List;
import java.util.Map;
import java.util.Set;

/** TESTS.md names, for each piece of the document's terms and promises, tests that are there. */
public final class DocumentTest {
    private static final Map<String, Class<?>> CLASSES = Map.of("P", PromisesTest.class, "L", LimitsTest.class,
        "R", RefusedTest.class, "F", FaultsTest.class, "E", EffectsTest.class, "A", LanguageTest.class);
    private static final String FIRST = "## Terms";
    private static final String BEHIND = "## Not promised";

    private final Check check = new Check("DocumentTest");

    public static void main(String[] args) throws Exception {
        DocumentTest test = new DocumentTest();
        List<String> document = lines("../shared/DOC.md");
        List<String> page = lines("TESTS.md");
        test.noPieceIsLeftOut(document, page);
        test.noPromiseIsLeftOut(document, page);
        test.testsAreThere(page);
        test.check.end();
    }

    private static List<String> lines(String path) throws Exception {
        return Files.readAllLines(Path.of(path), StandardCharsets.UTF_8);
    }

    private static String oneLine(List<String> lines) {
        return String.join(" ", lines).replaceAll("\\s+", " ").strip();
    }

    private static boolean isQuote(String line) {
        return line.startsWith("- \"") && line.endsWith("\"");
    }

    private static String quoted(String line) {
        return line.substring(3, line.length() - 1);
    }

    /** What the terms and promises say, without headings and the calls' own lines. */
    private static String said(List<String> document) {
        List<String> kept = new ArrayList<>();
        for (String line : document.subList(document.indexOf(FIRST), document.indexOf(BEHIND))) {
            if (!line.startsWith("## ") && !line.startsWith("```")) {
                kept.add(line.replaceFirst("^`[^`]*`: ", ""));
            }
        }
        return oneLine(kept);
    }

    private void noPieceIsLeftOut(List<String> document, List<String> page) {
        String said = said(document);
        String whole = oneLine(document);
        int at = 0;
        for (int i = 0; i < page.size(); i++) {
            String line = page.get(i);
            if (isQuote(line) && i < page.indexOf(FIRST)) {
                check.due("the document says: " + quoted(line), whole.contains(quoted(line)), true);
            } else if (isQuote(line)) {
                boolean next = said.startsWith(quoted(line), at);
                check.due("next in the document is " + quoted(line), next, true);
                at = next ? Math.min(said.length(), at + quoted(line).length() + 1) : at;
            }
        }
        check.due("nothing is left of the document: " + said.substring(at), at, said.length());
    }

    private void noPromiseIsLeftOut(List<String> document, List<String> page) {
        int promises = 0;
        for (String line : document) {
            if (line.startsWith("## Promise ")) {
                promises++;
                check.due("TESTS.md has " + line, page.contains(line), true);
            }
        }
        check.due("promises", promises, 32);
    }

    private void testsAreThere(List<String> page) {
        for (int i = 0; i < page.size(); i++) {
            if (isQuote(page.get(i))) {
                String names = i + 1 < page.size() ? page.get(i + 1) : "";
                check.due("tests are named below " + page.get(i), names.startsWith("  "), true);
                for (String name : names.strip().split(", ")) {
                    check.due(name + " is a test", isTest(name), true);
                }
            }
        }
    }

    private static boolean isTest(String name) {
        String[] parts = name.split("\\.");
        if (parts.length != 2 || !CLASSES.containsKey(parts[0])) {
            return false;
        }
        Set<String> methods = new HashSet<>();
        for (Method method : CLASSES.get(parts[0]).getDeclaredMethods()) {
            methods.add(method.getName());
        }
        return methods.contains(parts[1]);
    }
}
