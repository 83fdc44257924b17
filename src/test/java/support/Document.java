import java.io.IOException;
import java.nio.charset.StandardCharsets;
import java.nio.file.Files;
import java.nio.file.Path;
import java.util.ArrayList;
import java.util.List;

/** The document's sentences by promise; promise 0 is all that stands before the first one. */
final class Document {
    static final int PROMISES = 26;
    private static final Path PLACE = Path.of("../shared/DOC.md");
    private final List<StringBuilder> sections = new ArrayList<>();

    /** Without the document it is empty: then the tests run all the same, without comparing their quotes. */
    static Document read() {
        Document document = new Document();
        try {
            if (Files.exists(PLACE)) {
                document.split(Files.readAllLines(PLACE, StandardCharsets.UTF_8));
            }
        } catch (IOException e) {
            System.out.println("the document can't be read: " + e);
        }
        return document;
    }

    private void split(List<String> lines) {
        boolean face = false;
        sections.add(new StringBuilder());
        for (String line : lines) {
            if (line.startsWith("## Not promised")) {
                return;
            }
            if (line.startsWith("## Promise ")) {
                sections.add(new StringBuilder());
            }
            face = line.startsWith("```") != face;
            if (!face && !line.startsWith("#") && !line.startsWith("```")) {
                sections.get(sections.size() - 1).append(line).append('\n');
            }
        }
    }

    boolean isEmpty() {
        return sections.isEmpty();
    }

    int promises() {
        return sections.size() - 1;
    }

    boolean says(int promise, String words) {
        return isEmpty() || promise >= 0 && promise < sections.size() && sections.get(promise).indexOf(words) >= 0;
    }

    /** Without signatures and headings, and without the grammar, whose lines are no sentences. */
    List<String> sentences(int promise) {
        List<String> all = new ArrayList<>();
        for (String line : sections.get(promise).toString().split("\n")) {
            boolean heading = line.matches("[A-Z][A-Za-z ]*:");
            boolean grammar = line.matches("  [a-z]+ += .*");
            if (!line.isEmpty() && !heading && !grammar && !line.matches("`[^`]*`")) {
                for (String sentence : line.split("(?<=\\.\\)?) (?=[(A-Za-z])")) {
                    all.add(sentence);
                }
            }
        }
        return all;
    }
}
