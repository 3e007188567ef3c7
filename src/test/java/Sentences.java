import java.io.IOException;
import java.nio.file.Files;
import java.nio.file.Path;
import java.util.LinkedHashMap;
import java.util.Map;

/** The document's sentences that have a test: each is quoted word by word, and no promise may have words without one. */
final class Sentences {
    private static final Path DOCUMENT = Path.of("../shared/DOC.md");

    private final Check check;
    private final Map<String, String> sections = new LinkedHashMap<>();
    private final Map<String, StringBuilder> untested = new LinkedHashMap<>();
    private String quoted = "";
    private int askedBefore;

    Sentences(Check check) {
        this.check = check;
        if (Files.isReadable(DOCUMENT)) {
            read();
        } else {
            System.out.println("no document at " + DOCUMENT + ": the tests' quotes are not looked up");
        }
    }

    private void read() {
        String document;
        try {
            document = Files.readString(DOCUMENT);
        } catch (IOException e) {
            throw new IllegalStateException(e);
        }
        for (String part : document.split("(?m)^## ")) {
            String title = part.lines().findFirst().orElse("").replaceAll(":.*", "").trim();
            String text = part.replaceFirst("[^\n]*\n", "").replaceAll("(?m)^(```|Ahead of).*$", "")
                    .replaceAll("`[^`\n]*`", "").replaceAll("\\s+", " ");
            sections.put(title, text);
            untested.put(title, new StringBuilder(text));
        }
    }

    /** What is asked from here on tests these words of the section. */
    void quote(String section, String words) {
        askedUnderLast();
        quoted = section + ", '" + words + "'";
        askedBefore = check.asked();
        if (sections.isEmpty()) {
            return;
        }
        String text = sections.getOrDefault(section, "");
        int at = text.indexOf(words);
        check.holds("the document has the words of " + quoted, at >= 0);
        askedBefore = check.asked();
        for (int k = at; at >= 0 && k < at + words.length(); k++) {
            untested.get(section).setCharAt(k, ' ');
        }
    }

    private void askedUnderLast() {
        check.holds("something is asked under " + quoted, quoted.isEmpty() || check.asked() > askedBefore);
    }

    String quoted() {
        return quoted;
    }

    /** What the document says of the class has tests here; its face has them in FaceTest. */
    private static boolean isTested(String section) {
        return section.equals("What it is") || section.equals("Terms") || section.startsWith("Promise ");
    }

    /** Every word of these sections has been quoted. */
    void end() {
        askedUnderLast();
        for (Map.Entry<String, StringBuilder> section : untested.entrySet()) {
            if (isTested(section.getKey())) {
                String left = section.getValue().toString().replaceAll("[^A-Za-z0-9]+", " ").trim();
                check.holds(section.getKey() + " has words without a test: " + left, left.isEmpty());
            }
        }
    }
}
