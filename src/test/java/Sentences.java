import java.io.IOException;
import java.nio.file.Files;
import java.nio.file.Path;
import java.util.ArrayList;
import java.util.List;
import java.util.Map;
import java.util.TreeMap;

/**
 * The sentences of the document. A test says which one it holds before it asks; in the end each clause of the
 * description and of the promises must have been held, so that none is forgotten and none is made up.
 */
final class Sentences {
    private static final Path DOCUMENT = Path.of("../shared/DOC.md");

    private final Due due;
    private final Map<String, String> sections = new TreeMap<>();
    private final Map<String, List<String>> held = new TreeMap<>();
    private String current = "";
    private int askedBefore = 0;

    Sentences(Due due) throws IOException {
        this.due = due;
        for (String section : Files.readString(DOCUMENT).split("(?m)^## ")) {
            String heading = section.lines().findFirst().orElse("");
            sections.put(heading.replaceAll(":.*", ""), section.substring(heading.length()));
        }
    }

    void hold(String section, String sentence) {
        endOfTest();
        due.holds(section + " says: " + sentence, sections.getOrDefault(section, "").contains(sentence));
        held.computeIfAbsent(section, key -> new ArrayList<>()).add(sentence);
        current = section + ", " + sentence;
        due.about(current);
        askedBefore = due.asked();
    }

    void end() {
        endOfTest();
        due.about("the document");
        for (int promise = 1; promise <= 25; promise++) {
            allHeld("Promise " + promise, "(?<=\\.)\\s+|(?<=;)\\s|\n+");
        }
        allHeld("Description", "(?<=\\.|\\.\\))\\s+|\n+");
    }

    private void endOfTest() {
        due.holds("a question was asked for: " + current, current.isEmpty() || due.asked() > askedBefore);
    }

    private void allHeld(String section, String between) {
        String text = sections.getOrDefault(section, "").replaceAll("(?s)\nExamples:.*", "");
        due.holds("the document has " + section, !text.isEmpty());
        for (String part : text.split(between)) {
            String clause = part.replaceAll("[.;]$", "");
            boolean isSentence = !clause.isBlank() && !clause.startsWith("`") && !clause.startsWith("----");
            if (isSentence) {
                due.holds(section + " is held: " + clause, held.getOrDefault(section, List.of()).stream()
                        .anyMatch(sentence -> sentence.contains(clause)));
            }
        }
    }
}
