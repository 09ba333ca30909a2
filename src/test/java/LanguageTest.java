import java.io.IOException;
import java.nio.file.Files;
import java.nio.file.Path;
import java.util.List;
import java.util.regex.Matcher;
import java.util.regex.Pattern;

/** Those rules of ../shared/LANGUAGE.md that a look at the source can tell. */
public final class LanguageTest {
    private static final Checks checks = new Checks();
    private static final Path SOURCE = Path.of("src/main/java/CricketCooperative.java");
    private static final int LONGEST_METHOD = 60;
    private static final String[] REFUSED = {
        "->", "::", "\\bcatch\\b", "\\btry\\b", "\\bfinally\\b", "\\bsynchronized\\b", "\\bassert\\b",
        "\\bpackage\\b", "\\bprotected\\b", "\\bnative\\b", "\\bsuper\\b", "@", "Exact\\(",
        "\\bSystem\\.(?!arraycopy)", "\\bObjects?\\b", "\\bNaN\\b", "\\.toString\\(", "\\.equals\\(",
        "\\bhashCode\\b", "static (?!final|int|boolean|void|String)", "\" \\+|\\+ \""
    };

    public static void main(String[] args) throws IOException {
        String source = Files.readString(SOURCE);
        List<String> lines = Files.readAllLines(SOURCE);
        String code = source.replaceAll("(?s)/\\*.*?\\*/", "").replaceAll("//[^\n]*", "");
        checks.test("rule 1, 3 to 6: nothing that is refused", () -> refused(code));
        checks.test("rule 4: the one import", () -> imports(code));
        checks.test("rule 4: signs from 1 to 127", () -> signs(source));
        checks.test("rule 9: no loop without a counter", () -> loops(code));
        checks.test("rule 11: short methods", () -> methods(lines));
        checks.test("rule 11: few classes", () -> classes(code));
        checks.end();
    }

    private static void refused(String code) {
        for (String text : REFUSED) {
            Matcher matcher = Pattern.compile(text).matcher(code);
            checks.same(text + " in the source", false, matcher.find());
        }
    }

    private static void imports(String code) {
        Matcher matcher = Pattern.compile("import [^\n]*").matcher(code);
        checks.same("an import", true, matcher.find());
        checks.same("the import", "import java.util.NoSuchElementException;", matcher.group());
        checks.same("another import", false, matcher.find());
    }

    private static void signs(String source) {
        checks.same("other signs", true, source.chars().allMatch(sign -> sign >= 1 && sign <= 127));
    }

    private static void loops(String code) {
        checks.same("while", false, Pattern.compile("\\bwhile\\b").matcher(code).find());
        checks.same("for without a condition", false,
                Pattern.compile("for \\([^;)]*;\\s*;").matcher(code).find());
    }

    /** A method ends at a brace that is indented as its head is. */
    private static void methods(List<String> lines) {
        for (int first = 0; first < lines.size(); first++) {
            Matcher head = Pattern.compile("( {4}| {8})\\S[^=;]*\\).*\\{").matcher(lines.get(first));
            if (head.matches()) {
                int last = lines.subList(first, lines.size()).indexOf(head.group(1) + "}");
                checks.same(lines.get(first) + " is short", true, last >= 0 && last < LONGEST_METHOD);
            }
        }
    }

    private static void classes(String code) {
        long count = Pattern.compile("\\b(class|record|enum|interface) [A-Z]").matcher(code).results()
                .count();
        checks.same("classes", true, count >= 1 && count <= 12);
    }
}
