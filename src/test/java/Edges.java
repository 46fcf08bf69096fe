import java.io.IOException;
import java.nio.file.Files;
import java.nio.file.Path;
import java.util.ArrayList;
import java.util.List;

/** Sentences of the document that name a boundary case, each with a test of its own. */
final class Edges {
    private static final Path DOCUMENT = Path.of("../shared/DOC.md");

    final Check check;
    private final boolean running;
    private final List<String> quotes = new ArrayList<>();
    private String heading = "";

    private Edges(Check check, boolean running) {
        this.check = check;
        this.running = running;
    }

    static Edges running(Check check) {
        return new Edges(check, true);
    }

    /** Only collects the sentences. */
    static Edges collecting(Check check) {
        return new Edges(check, false);
    }

    /** Begins the sentences of a section of the document, such as "Terms" or "Promise 2". */
    void section(String title) {
        heading = title;
    }

    void holds(String sentence, Runnable test) {
        String place = heading + ": " + sentence;
        quotes.add(place);
        if (running) {
            check.sentence(place, test);
        }
    }

    List<String> quotes() {
        return quotes;
    }

    /** The document's sections, each in one line that begins with its title and a colon. */
    static List<String> sections() {
        try {
            List<String> sections = new ArrayList<>();
            for (String part : Files.readString(DOCUMENT).split("\n## ")) {
                String title = part.lines().findFirst().orElse("").replaceAll(":.*", "").trim();
                sections.add(title + ": " + oneLine(part));
            }
            return sections;
        } catch (IOException e) {
            throw new IllegalStateException("there is no " + DOCUMENT);
        }
    }

    static String oneLine(String text) {
        return text.replaceAll("\\s+", " ").trim();
    }
}
