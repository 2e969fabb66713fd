import java.io.IOException;
import java.nio.file.DirectoryStream;
import java.nio.file.Files;
import java.nio.file.Path;
import java.util.ArrayList;
import java.util.List;
import java.util.Map;
import java.util.TreeMap;
import java.util.regex.Matcher;
import java.util.regex.Pattern;

/** Every sentence of the document's terms and promises is one that a test names by due.says(..), and no test names another. */
public final class DocumentTest {
    private static final Path DOCUMENT = Path.of("../shared/DOC.md"), TESTS = Path.of("src/test/java");
    private static final int TERMS = 0, LAST_PROMISE = 23;
    private static final String TEXT = "\"(?:[^\"\\\\]|\\\\.)*\"";
    private static final Pattern SAYS = Pattern.compile("due\\.says\\((\\d+),\\s*(" + TEXT + "(?:\\s*\\+\\s*" + TEXT + ")*)\\)");
    private static final Due due = new Due();

    public static void main(String[] args) throws IOException {
        if (!Files.exists(DOCUMENT)) {
            System.out.println("the document is not here: nothing was compared with it");
            return;
        }
        String document = Files.readString(DOCUMENT);
        Map<Integer, List<String>> said = sayings();
        due.is("promises with a sentence", said.size(), 1 + LAST_PROMISE);
        quotesStand(TERMS, plain(document), said);
        allIsQuoted(TERMS, between(document, "## Terms", "## Promise 1:"), said);
        for (int promise = 1; promise <= LAST_PROMISE; promise++) {
            String to = promise < LAST_PROMISE ? "## Promise " + (promise + 1) + ":" : "## Not promised";
            String text = between(document, "## Promise " + promise + ":", to);
            quotesStand(promise, text, said);
            allIsQuoted(promise, text, said);
        }
        due.end();
    }

    private static Map<Integer, List<String>> sayings() throws IOException {
        Map<Integer, List<String>> said = new TreeMap<>();
        try (DirectoryStream<Path> files = Files.newDirectoryStream(TESTS, "*Test.java")) {
            for (Path file : files) {
                Matcher found = SAYS.matcher(Files.readString(file));
                while (found.find()) {
                    String words = found.group(2).replaceAll("\"\\s*\\+\\s*\"", "");
                    List<String> all = said.computeIfAbsent(Integer.parseInt(found.group(1)), n -> new ArrayList<>());
                    all.add(words.substring(1, words.length() - 1));
                }
            }
        }
        return said;
    }

    private static String plain(String text) {
        return text.replaceAll("\\s+", " ");
    }

    /** A section without its title, the call's form, and what is only told of the interface. */
    private static String between(String document, String from, String to) {
        int begin = document.indexOf(from), end = document.indexOf(to);
        due.is(from + " stands there", begin >= 0 && begin < end ? 1 : 0, 1);
        if (begin < 0 || begin >= end) return "";
        String text = document.substring(document.indexOf('\n', begin), end);
        text = text.replaceAll("(?m)^Ahead of the calls .*$", "").replaceAll("(?m)^```.*$", "");
        return plain(text.replaceFirst("^\\s*`[^`]*`:", ""));
    }

    private static void quotesStand(int promise, String text, Map<Integer, List<String>> said) {
        for (String words : said.getOrDefault(promise, List.of())) {
            due.is("promise " + promise + " says: " + words, text.contains(words) ? 1 : 0, 1);
        }
    }

    private static void allIsQuoted(int promise, String text, Map<Integer, List<String>> said) {
        StringBuilder left = new StringBuilder(text);
        for (String words : said.getOrDefault(promise, List.of())) {
            for (int at = text.indexOf(words); at >= 0; at = text.indexOf(words, at + 1)) {
                for (int i = at; i < at + words.length(); i++) left.setCharAt(i, ' ');
            }
        }
        due.is("letters of promise " + promise + " that no test names: " + plain(left.toString()),
            left.toString().replaceAll("\\s", "").length(), 0);
    }
}
