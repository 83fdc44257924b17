import java.io.IOException;
import java.nio.charset.StandardCharsets;
import java.nio.file.DirectoryStream;
import java.nio.file.Files;
import java.nio.file.Path;
import java.util.ArrayList;
import java.util.List;
import java.util.regex.Matcher;
import java.util.regex.Pattern;

/** Each sentence of the document is named by a test, so that none is left out. */
public final class SentencesTest {
    private static final Checks CHECKS = new Checks();
    private static final Pattern NAMED = Pattern.compile("CHECKS\\.of\\((\\d+), \"((?:[^\"\\\\]|\\\\.)*)\"\\);");
    private static final String[] WITHOUT_A_CASE = {
        "Colourings of the numbers 1 to n in which", "All numbers are integers.", "The constructor and the methods follow", "Computes a checksum.", "Returns this."
    };

    public static void main(String[] args) throws IOException {
        Document document = Document.read();
        List<List<String>> named = named();
        if (document.isEmpty()) {
            System.out.println("no document to compare with");
        } else {
            CHECKS.due("promises of the document", document.promises(), Document.PROMISES);
            for (int promise = 0; promise <= document.promises(); promise++) {
                for (String sentence : document.sentences(promise)) {
                    CHECKS.holds("a test of promise " + promise + ", \"" + sentence + "\"",
                        hasNoCase(sentence) || isNamed(sentence, named.get(promise)));
                }
            }
        }
        CHECKS.finish();
    }

    private static List<List<String>> named() throws IOException {
        List<List<String>> all = new ArrayList<>();
        for (int promise = 0; promise <= Document.PROMISES; promise++) {
            all.add(new ArrayList<>());
        }
        try (DirectoryStream<Path> files = Files.newDirectoryStream(Path.of("src/test/java"), "*Test.java")) {
            for (Path file : files) {
                Matcher m = NAMED.matcher(Files.readString(file, StandardCharsets.UTF_8));
                while (m.find()) {
                    all.get(Integer.parseInt(m.group(1))).add(m.group(2));
                }
            }
        }
        return all;
    }

    private static boolean hasNoCase(String sentence) {
        for (String start : WITHOUT_A_CASE) {
            if (sentence.startsWith(start)) {
                return true;
            }
        }
        return false;
    }

    /** By the whole sentence; only parentheses round several sentences are left out. */
    private static boolean isNamed(String sentence, List<String> names) {
        for (String name : names) {
            if (sentence.equals(name) || sentence.equals("(" + name) || sentence.equals(name + ")")) {
                return true;
            }
        }
        return false;
    }
}
