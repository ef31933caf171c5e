import java.io.IOException;
import java.nio.file.Files;
import java.nio.file.Path;
import java.util.Set;
import java.util.TreeSet;
import java.util.regex.Matcher;
import java.util.regex.Pattern;

/** Rule 4 of LANGUAGE.md over the text of the class, as far as the class uses the library. */
final class RulesTest {
    private static final Path SOURCE = Path.of("src/main/java/UnitCommitment.java");

    /** A name of the library with what is taken of it; "(" stands only behind what is called. */
    private static final Pattern OF_LIBRARY =
        Pattern.compile("\\b(Integer|Long|Math|System|Arrays|List|String|Character|Double|Float)\\s*\\.\\s*(\\w+)(\\s*\\()?");

    private static final Pattern FUNCTIONS = Pattern.compile(
        "(Integer|Long|Math)\\.(?!\\w*Exact\\()\\w+\\(|System\\.arraycopy\\(|Arrays\\.(copyOf|copyOfRange|fill)\\(|List\\.of\\(");

    /** Names that begin like those of a class, but for constants, which have no small letter. */
    private static final Pattern CLASS_NAME = Pattern.compile("\\b[A-Z]\\w*[a-z]\\w*\\b");

    private static final Set<String> LIBRARY = Set.of("Integer", "Long", "Math", "System", "Arrays", "List", "ArrayList",
        "String", "StringBuilder", "Iterator", "Iterable", "Comparable", "IllegalStateException",
        "IllegalArgumentException", "IndexOutOfBoundsException", "ArithmeticException",
        "UnsupportedOperationException", "NoSuchElementException", "RuntimeException");

    private static String code = "";

    public static void main(String[] args) throws IOException {
        code = withoutComments(Files.readString(SOURCE));
        Check.test("rule 4: the functions of the library that it names, and no constant of it", () ->
            Check.same(new TreeSet<>(), notNamed(code)));
        Check.test("rule 4: no class of the library but those that the rules name", () ->
            Check.same(new TreeSet<>(), strangers(code)));
        Check.test("rule 4: this test sees what it looks for", RulesTest::sees);
        Check.finish();
    }

    private static String withoutComments(String text) {
        return text.replaceAll("(?s)/\\*.*?\\*/", " ").replaceAll("//[^\\n]*", " ");
    }

    private static Set<String> notNamed(String text) {
        Set<String> found = new TreeSet<>();
        Matcher matcher = OF_LIBRARY.matcher(text);
        while (matcher.find()) {
            String use = matcher.group(1) + "." + matcher.group(2) + (matcher.group(3) == null ? "" : "(");
            if (!FUNCTIONS.matcher(use).matches()) {
                found.add(use);
            }
        }
        return found;
    }

    private static Set<String> strangers(String text) {
        Set<String> found = new TreeSet<>();
        Matcher matcher = CLASS_NAME.matcher(text);
        while (matcher.find()) {
            found.add(matcher.group());
        }
        found.removeAll(LIBRARY);
        Matcher own = Pattern.compile("\\b(?:class|interface|enum|record)\\s+(\\w+)").matcher(text);
        while (own.find()) {
            found.remove(own.group(1));
        }
        return found;
    }

    private static void sees() {
        Check.same(Set.of("Integer.MAX_VALUE"), notNamed("int a = Math.min(1, Integer.MAX_VALUE);"));
        Check.same(Set.of("Math.addExact("), notNamed("Math.addExact(1, Integer.bitCount(2))"));
        Check.same(Set.of("Arrays.sort("), notNamed("Arrays.sort(a); Arrays.fill(a, 0);"));
        Check.same(Set.of("HashMap"), strangers("class Own { Own a; HashMap b; String C_D; }"));
        Check.same(" int a; ", withoutComments("/* Integer.MAX_VALUE\n */int a;// Integer.MAX_VALUE"));
    }
}
