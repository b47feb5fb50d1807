import java.nio.file.DirectoryStream;
import java.nio.file.Files;
import java.nio.file.Path;
import java.util.ArrayList;
import java.util.List;
import java.util.regex.Matcher;
import java.util.regex.Pattern;

/** That no promise of the document, and none of its sections, is left without a test of edges that quotes its words. */
public final class SentencesTest {
    private static final Due DUE = new Due();
    private static final String TEXT = "((?:\"(?:[^\"\\\\]|\\\\.)*\"\\s*\\+?\\s*)+)";
    private static final Pattern QUOTE = Pattern.compile("(?:sentence\\(|rowFaults\\(\"\\w+\", )" + TEXT + "\\)");
    private static final Pattern PIECE = Pattern.compile("\"((?:[^\"\\\\]|\\\\.)*)\"");

    public static void main(String[] args) throws Exception {
        List<String> quotes = new ArrayList<>();
        try (DirectoryStream<Path> files = Files.newDirectoryStream(Path.of("src/test/java"), "EdgesOf*Test.java")) {
            for (Path file : files) {
                addQuotes(Files.readString(file), quotes);
            }
        }
        String document = Files.readString(Path.of("../shared/DOC.md")).replaceAll("\\s+", " ");
        for (int promise = 1; promise <= 34; promise++) {
            String head = "## Promise " + promise + ": ";
            String next = promise < 34 ? "## Promise " + (promise + 1) + ": " : "## Not promised";
            DUE.holds("promise " + promise + " has a test of edges", quoted(part(document, head, next), quotes));
        }
        for (int section = 1; section <= 5; section++) {
            String next = section < 5 ? "==== " + (section + 1) + " " : "Ahead of the calls `home`";
            DUE.holds("section " + section + " has a test of edges",
                quoted(part(document, "==== " + section + " ", next), quotes));
        }
        DUE.holds("the terms have a test of edges", quoted(part(document, "## Terms", "==== 1 "), quotes));
        DUE.end();
    }

    private static void addQuotes(String source, List<String> quotes) {
        Matcher found = QUOTE.matcher(source);
        while (found.find()) {
            StringBuilder words = new StringBuilder();
            Matcher piece = PIECE.matcher(found.group(1));
            while (piece.find()) {
                words.append(piece.group(1));
            }
            quotes.add(words.toString());
        }
    }

    private static String part(String document, String from, String to) {
        int begin = document.indexOf(from);
        int end = document.indexOf(to, begin + 1);
        DUE.holds("the document has " + from, begin >= 0 && end > begin);
        return begin >= 0 && end > begin ? document.substring(begin, end) : "";
    }

    private static boolean quoted(String part, List<String> quotes) {
        for (String words : quotes) {
            if (part.contains(words)) {
                return true;
            }
        }
        return false;
    }
}
