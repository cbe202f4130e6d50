import java.io.IOException;
import java.nio.file.Files;
import java.nio.file.Path;
import java.util.regex.Matcher;
import java.util.regex.Pattern;

/** The rules of ../shared/LANGUAGE.md that a look at the text can tell, with their numbers. */
public final class LanguageTest {
    private static final String[][] FORBIDDEN = {
        {"2 (no lambda)", "->"},
        {"2 (no method reference)", "::"},
        {"3 (no types beside those listed)", "\\b(var|Object|Long|Boolean|Character|Double|Map"
                + "|Set|Optional|Random|Thread)\\b"},
        {"4 (none whose name ends in Exact)", "Exact\\("},
        {"4 (no library beside what is listed)", "\\bSystem\\.(?!arraycopy)|\\bjava\\.(?!util\\."
                + "NoSuchElementException)|String\\.format|\\.stream\\("},
        {"5 (no static initialiser)", "static\\s*\\{"},
        {"5 (static fields are final)", "static (int|long|boolean|String|char|byte)(\\[\\])? "
                + "\\w+ ?[=;]"},
        {"6 (no try in this class)", "\\b(try|catch|finally|synchronized|assert)\\b"},
        {"6 (throw new E only)", "\\bthrow (?!new (IllegalState|IllegalArgument|IndexOutOfBounds"
                + "|NoSuchElement)Exception\\(\"\"\\);)"},
        {"10 (no texts joined by +)", "\"\" ?\\+|\\+ ?\"\""},
    };
    private static final int MAX_METHOD_LINES = 60;

    public static void main(String[] args) throws IOException {
        Expect expect = new Expect("language");
        String source = Files.readString(Path.of("src/main/java/CarrierDesk.java"));
        expect.look("signs beyond 127 (rule 4)", "false",
                "" + source.chars().anyMatch(sign -> sign > 127));
        String code = source.replaceAll("(?s)/\\*.*?\\*/", "").replaceAll("//[^\n]*", "")
                .replaceAll("\"[^\"\n]*\"", "\"\"");
        for (String[] rule : FORBIDDEN) {
            Matcher found = Pattern.compile(rule[1]).matcher(code);
            expect.look("rule " + rule[0], "", found.find() ? found.group() : "");
        }
        expect.look("the longest method (rule 11)", "true",
                "" + (longestBody(code) <= MAX_METHOD_LINES));
        expect.end();
    }

    /** In lines; a method's head ends with an opening brace, and its end stands as deep as it. */
    private static int longestBody(String code) {
        int longest = 0;
        Matcher method = Pattern.compile(
                "(?m)^( {4,8})(?! )[^\n;=]*\\([^;{]*\\{\n(.*\n)*?\\1\\}").matcher(code);
        while (method.find()) {
            longest = Math.max(longest, method.group().split("\n").length);
        }
        return longest;
    }
}
