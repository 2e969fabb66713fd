import java.io.IOException;
import java.nio.file.Files;
import java.nio.file.Path;
import java.util.ArrayList;
import java.util.List;
import java.util.regex.Matcher;
import java.util.regex.Pattern;

/** The example in README.md is made of the very lines that are called here, and answers what it says. */
public final class ReadmeTest {
    private static final Pattern TOLD_ANSWER = Pattern.compile("// (-?\\d+): ");
    private static final Due due = new Due();

    private final List<String> lines;
    private int at = 0;

    private ReadmeTest(List<String> lines) {
        this.lines = lines;
    }

    public static void main(String[] args) throws IOException {
        ReadmeTest test = new ReadmeTest(example(Files.readString(Path.of("README.md"))));
        test.callAll();
        due.is("lines of the example that were called", test.at, test.lines.size());
        due.end();
    }

    private static List<String> example(String readme) {
        List<String> found = new ArrayList<>();
        int begin = readme.indexOf("```java\n"), end = readme.indexOf("```", begin + 3);
        if (begin < 0 || end < 0) return found;
        for (String line : readme.substring(begin + 8, end).split("\n")) {
            if (!line.isBlank()) found.add(line);
        }
        return found;
    }

    private void callAll() {
        line("FactLog log = new FactLog();");
        FactLog log = new FactLog();
        answer("log.rest(3);", log.rest(3), 1);
        int base = log.fact(0, 40);
        answer("int base = log.fact(0, 40);", base, 0);
        answer("log.lean(base);", log.lean(base), 1);
        int proof = log.fact(1, 40);
        answer("int proof = log.fact(1, 40);", proof, 1);
        answer("log.check(proof);", log.check(proof), 1);
        answer("log.change(3, 99);", log.change(3, 99), 1);
        answer("log.usable(proof);", log.usable(proof), 0);
        answer("log.save(1000);", log.save(1000), 64);
        answer("log.save(5);", log.save(5), 5);
        answer("log.open();", log.open(), 2);
        answer("log.pack(proof, true);", log.pack(proof, true), 34);
        answer("log.take();", log.take(), 2);
        answer("log.of(3, 40);", log.of(3, 40), 2);
    }

    /** The next line of the example must begin with this code; the line. */
    private String line(String code) {
        String found = at < lines.size() ? lines.get(at) : "";
        at++;
        due.is("README.md has '" + code + "' where it has '" + found + "'", found.startsWith(code) ? 1 : 0, 1);
        return found;
    }

    private void answer(String code, long got, long want) {
        due.is(code, got, want);
        Matcher told = TOLD_ANSWER.matcher(line(code));
        due.is(code + " has its answer behind it", told.find() ? Long.parseLong(told.group(1)) : -99, want);
    }
}
