import java.io.IOException;
import java.lang.reflect.Field;
import java.lang.reflect.Method;
import java.lang.reflect.Modifier;
import java.nio.file.Files;
import java.nio.file.Path;
import java.util.ArrayList;
import java.util.Arrays;
import java.util.List;
import java.util.Set;
import java.util.TreeSet;
import java.util.regex.Matcher;
import java.util.regex.Pattern;

/** Rules of LANGUAGE.md, as far as they can be seen in the class's text or in its members; FaceTest has rule 1. */
public final class LanguageTest {
    private static final Path SOURCE = Path.of("src/main/java/FactLog.java");
    private static final int MOST_CLASSES = 12, MOST_FIELDS = 20, MOST_PARAMETERS = 7, MOST_LINES = 60;

    /** What the class may call of the library, and the one exception that the document names. */
    private static final Set<String> LIBRARY = Set.of("Long.bitCount", "System.arraycopy");
    private static final String[] THROWN = {"ArrayIndexOutOfBoundsException"};

    private static final String[][] RULED_OUT = {
        {"0 (one file, no package)", "(?m)^\\s*package\\b"},
        {"2 (no lambda, no method reference)", "->|::"},
        {"3 (no doubles are wanted)", "\\b(double|float)\\b"},
        {"4 (nothing is imported)", "(?m)^\\s*import\\b"},
        {"5 (no static initialiser)", "\\bstatic\\s*\\{"},
        {"6", "\\b(try|catch|finally|synchronized|assert|equals|hashCode|toString|getMessage)\\b"},
        {"9 (loops are counted)", "\\b(while|do)\\b|for\\s*\\([^;:]*;\\s*;"},
        {"10 (texts are not joined)", "\"\\s*\\+|\\+\\s*\""}};

    private static final Due due = new Due();

    public static void main(String[] args) throws IOException {
        String source = Files.readString(SOURCE);
        String code = withoutComments(source);
        for (String[] rule : RULED_OUT) due.is("rule " + rule[0] + ": " + all(rule[1], code), all(rule[1], code).size(), 0);
        Set<String> library = new TreeSet<>(all("\\b(?:Integer|Long|Math|System|Arrays|String|List)\\.\\w+", code));
        due.is("rule 4: " + library, LIBRARY.containsAll(library) ? 1 : 0, 1);
        Set<String> thrown = new TreeSet<>(all("(?<=throw new )\\w+", code));
        due.is("rule 6: " + thrown, thrown.equals(new TreeSet<>(Arrays.asList(THROWN))) ? 1 : 0, 1);
        methodsAreShort(source);
        members();
        noCallMakesAnything(code);
        due.end();
    }

    private static String withoutComments(String source) {
        return source.replaceAll("(?s)/\\*.*?\\*/", "").replaceAll("(?m)//.*$", "");
    }

    private static List<String> all(String pattern, String code) {
        List<String> found = new ArrayList<>();
        Matcher matcher = Pattern.compile(pattern).matcher(code);
        while (matcher.find()) found.add(matcher.group());
        return found;
    }

    /** Rule 11. A method begins with a line that ends with ") {" at four or eight places from the margin. */
    private static void methodsAreShort(String source) {
        String[] lines = source.split("\n");
        for (int i = 0; i < lines.length; i++) {
            Matcher head = Pattern.compile("^(    |        )[a-zA-Z].*\\).* \\{$").matcher(lines[i]);
            if (!head.find() || lines[i].matches("\\s+(if|for|switch|while) .*")) continue;
            int end = i;
            while (end < lines.length && !lines[end].equals(head.group(1) + "}")) end++;
            due.is("rule 11: lines of " + lines[i].trim() + " " + (end - i + 1), end - i < MOST_LINES ? 1 : 0, 1);
        }
    }

    private static void members() {
        List<Class<?>> classes = new ArrayList<>(List.of(FactLog.class.getDeclaredClasses()));
        classes.add(FactLog.class);
        due.is("rule 11: classes", classes.size() <= MOST_CLASSES ? 1 : 0, 1);
        for (Class<?> each : classes) {
            int fields = 0;
            for (Field field : each.getDeclaredFields()) {
                if (Modifier.isStatic(field.getModifiers())) {
                    due.is("rule 5: " + field, Modifier.isFinal(field.getModifiers()) && field.getType().isPrimitive() ? 1 : 0, 1);
                } else {
                    fields++;
                }
            }
            due.is("rule 11: fields of " + each + " " + fields, fields <= MOST_FIELDS ? 1 : 0, 1);
            for (Method method : each.getDeclaredMethods()) {
                due.is("rule 11: " + method, method.getParameterCount() <= MOST_PARAMETERS ? 1 : 0, 1);
            }
        }
    }

    /** Rule 12, and the room for a run: "new" stands in fields, in Book's constructor and behind throw alone. */
    private static void noCallMakesAnything(String code) {
        for (String line : code.split("\n")) {
            if (!line.contains("new ")) continue;
            boolean field = line.matches(" {4}( {4})?(private |final )+\\S+ \\w+ = new [^;]*;");
            boolean elsewhere = line.contains("throw new ") || line.equals("                facts[i] = new Fact();");
            due.is("rule 12: " + line.trim(), field || elsewhere ? 1 : 0, 1);
        }
    }
}
