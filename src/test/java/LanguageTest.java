import java.io.IOException;
import java.nio.file.Files;
import java.nio.file.Path;
import java.util.regex.Matcher;
import java.util.regex.Pattern;

/** Words in the class's text that LANGUAGE.md forbids; run from the project's root, as .ci/run does. */
public final class LanguageTest {
    private static final Path SOURCE = Path.of("src/main/java/CountLeast.java");

    private static final String[] FORBIDDEN = {
        "->", "::", "\\bpackage\\b", "\\bimport\\b", "\\bfinally\\b", "\\bsynchronized\\b", "\\bassert\\b",
        "\\bvolatile\\b", "\\bnative\\b", "\\btry\\b", "\\bcatch\\b", "\\bstatic\\s*\\{", "\\bprotected\\b",
        "\\bSystem\\b", "\\bThread\\b", "\\bObject\\b", "Exact\\s*\\(", "\\bhashCode\\b", "\\btoString\\b",
        "\\bextends\\s+\\w*Exception\\b", "\\bdouble\\b", "\\bfloat\\b", "\\bwhile\\s*\\(\\s*true\\b",
        "\\bfor\\s*\\(\\s*;\\s*;", "@\\w+",
    };

    private static final Pattern THROW = Pattern.compile("\\bthrow\\b[^;]*;");
    private static final Pattern ALLOWED_THROW = Pattern.compile(
            "throw new (IllegalStateException|IllegalArgumentException|IndexOutOfBoundsException)"
            + "\\((\"[^\"]*\")?\\);");
    private static final Pattern STATIC_FIELD = Pattern.compile("\\bstatic\\b[^;{(]*=[^;]*;");

    public static void main(String[] args) throws IOException {
        String text = Files.readString(SOURCE);
        String code = text.replaceAll("(?s)/\\*.*?\\*/", " ").replaceAll("//[^\n]*", " ");
        for (String word : FORBIDDEN) {
            Checks.due(word + " stands in the code", Pattern.compile(word).matcher(code).find(), false);
        }
        checkAll(code, THROW, ALLOWED_THROW);
        checkAll(code, STATIC_FIELD, Pattern.compile("static final int [A-Z_]+ = -?\\d+;"));
        Checks.due("all characters are 0 to 255", text.chars().allMatch(c -> c <= 255), true);
        Checks.finish();
    }

    private static void checkAll(String code, Pattern sought, Pattern allowed) {
        Matcher found = sought.matcher(code);
        int count = 0;
        while (found.find()) {
            Checks.due(found.group(), allowed.matcher(found.group()).matches(), true);
            count++;
        }
        Checks.due(sought + " is found", count > 0, true);
    }
}
