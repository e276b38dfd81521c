import java.io.IOException;
import java.nio.file.Files;
import java.nio.file.Path;
import java.util.HashMap;
import java.util.LinkedHashSet;
import java.util.Map;
import java.util.Set;
import java.util.regex.Matcher;
import java.util.regex.Pattern;

/**
 * Runs a test for each sentence of some sections of the document, and sees that none of their
 * sentences is left out. A section is a promise, such as 'Promise 2', or a paragraph of the terms,
 * such as 'Passing beats'.
 */
final class Sentences {
    private static final Path DOCUMENT = Path.of("..", "shared", "DOC.md");
    private static final Pattern PART = Pattern.compile("## (Terms|Promise \\d+|.*).*");
    private static final Pattern TERM = Pattern.compile("([A-Z][a-z]+(?: [a-z]+)?)\\. (.*)");
    private static final String SENTENCE_END = "(?<=[.:;]) (?=[A-Z])";

    private final Check check;
    private final Map<String, Set<String>> sections = new HashMap<>();
    private String section = "";
    private Set<String> untold = Set.of();

    Sentences(Check check) throws IOException {
        this.check = check;
        read();
    }

    private void read() throws IOException {
        String part = "";
        for (String line : Files.readAllLines(DOCUMENT)) {
            Matcher heading = PART.matcher(line);
            Matcher term = TERM.matcher(line);
            if (heading.matches()) {
                part = heading.group(1);
            } else if (part.equals("Terms") && term.matches()) {
                section = term.group(1);
                add(term.group(2));
            } else if (part.equals("Terms") && !line.startsWith("Ahead of the calls")) {
                add(line);
            } else if (part.startsWith("Promise ")) {
                section = part;
                add(line.replaceFirst("^`[^`]*`: ", ""));
            }
        }
    }

    private void add(String line) {
        for (String sentence : line.strip().split(SENTENCE_END)) {
            if (!sentence.isEmpty() && !sentence.startsWith("```")) {
                sections.computeIfAbsent(section, key -> new LinkedHashSet<>()).add(sentence);
            }
        }
    }

    /** Ends the section before, and begins another one. */
    void in(String newSection) {
        endSection();
        section = newSection;
        untold = sections.getOrDefault(newSection, new LinkedHashSet<>());
        check.isTrue(newSection + " is in the document", !untold.isEmpty());
    }

    private void endSection() {
        for (String sentence : untold) {
            check.same(section + ": '" + sentence + "'", "a test", "none");
        }
        untold = Set.of();
    }

    /** A sentence and the test of it. */
    void says(String sentence, Runnable test) {
        tell(sentence);
        int before = check.checks();
        check.about(section + ", '" + sentence + "': ");
        test.run();
        check.about("");
        check.isTrue(sentence + " is tested", check.checks() > before);
    }

    /** Sentences that name no bound of their own; what they say is seen in the other tests. */
    void saysToo(String... sentences) {
        for (String sentence : sentences) {
            tell(sentence);
        }
    }

    private void tell(String sentence) {
        check.isTrue(section + " says '" + sentence + "'", untold.remove(sentence));
    }

    void end() {
        endSection();
        check.end();
    }
}
