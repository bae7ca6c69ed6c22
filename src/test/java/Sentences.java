import java.io.IOException;
import java.nio.file.Files;
import java.nio.file.Path;
import java.util.LinkedHashMap;
import java.util.Map;

/**
 * Runs tests that each quote the sentence of the document that they are about, and tells in the end
 * which sentences no test has quoted. A quote that the document does not hold is a fault of the test.
 */
final class Sentences {
    private static final Path DOCUMENT = Path.of("../shared/DOC.md");

    private final Check check;
    private final Map<String, String> whole = new LinkedHashMap<>();
    private final Map<String, String> unquoted = new LinkedHashMap<>();
    private String section = "";

    Sentences(Check check) throws IOException {
        this.check = check;
        if (Files.exists(DOCUMENT)) {
            read(Files.readString(DOCUMENT));
        }
    }

    private void read(String document) {
        for (String part : document.split("(?m)^## ")) {
            int end = part.indexOf('\n');
            String title = part.substring(0, Math.max(end, 0)).replaceAll(":.*", "");
            if (isTested(title)) {
                whole.put(title, plain(part.substring(end)));
            }
        }
        unquoted.putAll(whole);
    }

    /** FaceTest has the public face, and what is not promised needs no test. */
    private static boolean isTested(String title) {
        return title.equals("What it is") || title.equals("Description") || title.startsWith("Promise ");
    }

    /** One line, without signatures, marks, and the examples, which ExamplesTest has. */
    private static String plain(String text) {
        return text.replaceAll("(?m)^`[^`]*`$", " ")
            .replaceAll("(?m)^---- .*$", " ")
            .replaceAll("(?s)Examples: .*?The constants:", " ")
            .replaceAll("(?m)^ *(- |[0-9]\\. )", " ")
            .replace("`", "")
            .replaceAll("\\s+", " ");
    }

    void section(String title) {
        section = title;
        check.holds("the document has a section " + title, whole.isEmpty() || whole.containsKey(title));
    }

    void test(String sentence, Runnable test) {
        quote(sentence);
        check.about(section + ": " + sentence);
        int before = check.compared();
        test.run();
        check.holds("the test compares something", check.compared() > before);
        check.about("");
    }

    /** A sentence that promises nothing by itself. */
    void nothingToTest(String sentence) {
        quote(sentence);
    }

    private void quote(String sentence) {
        if (whole.containsKey(section)) {
            check.holds(section + " says: " + sentence, whole.get(section).contains(sentence));
            unquoted.put(section, unquoted.get(section).replace(sentence, " "));
        }
    }

    void checkThatAllAreQuoted() {
        for (Map.Entry<String, String> rest : unquoted.entrySet()) {
            check.holds("each sentence of " + rest.getKey() + " has a test, also: " + rest.getValue().trim(),
                !rest.getValue().matches(".*\\w.*"));
        }
    }
}
