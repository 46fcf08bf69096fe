import java.nio.file.Files;
import java.nio.file.Path;
import java.util.ArrayList;
import java.util.List;
import java.util.regex.Pattern;

/** Each sentence of the document that names a boundary case is quoted by a test of its own. */
public final class EdgeDocumentTest {
    private static final Check CHECK = new Check("EdgeDocumentTest");

    /** The words by which a sentence names a boundary case. */
    private static final Pattern BOUNDARY = Pattern.compile(
        "\\d to \\d|^Throws |\\bNONE\\b|\\bor 0\\b"
        + "|at least|at most|at first|more than|greater than|less than|always 0|never|no longer"
        + "|only|empty|cyclic|modulo|divisible|too early|smaller number|smallest|thirteenth"
        + "|13th|31st|9th|range|first error|without|no contract|nothing|cannot|fewer|until"
        + "|Otherwise|no such|different|maximal|must be|: 0 for|from 0|oldest|in any way"
        + "|replacing|is kept|undone|do not change|does not change|changes nothing|no desertion"
        + "|listed first|executed one after");

    public static void main(String[] args) {
        Edges edges = Edges.collecting(CHECK);
        EdgeTermsTest.all(edges);
        EdgeTextsTest.all(edges);
        EdgeQueriesTest.all(edges);
        EdgeSimulationsTest.all(edges);
        EdgeOperationsTest.all(edges);
        if (Files.exists(Path.of("../shared/DOC.md"))) {
            List<String> sections = Edges.sections();
            quotesStandInTheDocument(edges.quotes(), sections);
            boundariesAreQuoted(edges.quotes(), sections);
        }
        CHECK.finish();
    }

    private static void quotesStandInTheDocument(List<String> quotes, List<String> sections) {
        for (String quote : quotes) {
            String title = titleOf(quote);
            boolean found = false;
            for (String section : sections) {
                found |= titleOf(section).equals(title) && section.contains(textOf(quote));
            }
            CHECK.yes("the document says: " + quote, found);
        }
    }

    private static void boundariesAreQuoted(List<String> quotes, List<String> sections) {
        for (String section : sections) {
            String title = titleOf(section);
            if (title.equals("The public face") || title.equals("Not promised")) {
                continue;
            }
            for (String sentence : sentences(textOf(section))) {
                if (BOUNDARY.matcher(sentence).find()) {
                    CHECK.yes("quoted: " + title + ": " + sentence,
                        isQuoted(quotes, title, sentence));
                }
            }
        }
    }

    private static boolean isQuoted(List<String> quotes, String title, String sentence) {
        for (String quote : quotes) {
            String text = textOf(quote);
            if (titleOf(quote).equals(title)
                    && (sentence.contains(text) || text.contains(sentence))) {
                return true;
            }
        }
        return false;
    }

    private static List<String> sentences(String section) {
        List<String> sentences = new ArrayList<>();
        for (String part : section.split("(?<=\\.\\)?) | (?=Throws `|Returns |- `)")) {
            sentences.add(part.replaceAll("^- ", "").trim());
        }
        return sentences;
    }

    private static String titleOf(String text) {
        return text.substring(0, text.indexOf(": "));
    }

    private static String textOf(String text) {
        return text.substring(text.indexOf(": ") + 2);
    }
}
