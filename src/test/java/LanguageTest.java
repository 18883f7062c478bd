import java.io.IOException;
import java.nio.file.Files;
import java.nio.file.Path;
import java.util.regex.Matcher;
import java.util.regex.Pattern;

/** Rules of LANGUAGE.md that the text of the class can show; run from the project's folder. */
public final class LanguageTest {
    private static final String[] BARRED = {
        // rules 2 and 5: no lambda, no method reference, no static block
        "->", "::", "\\bstatic\\s*\\{",
        // rule 6 and the order that the machine's exceptions are not caught
        "\\btry\\b", "\\bcatch\\b", "\\bfinally\\b", "\\bsynchronized\\b", "\\bassert\\b",
        // rules 3, 4 and 13
        "^\\s*package\\b", "^\\s*import\\b", "\\bdouble\\b", "\\bfloat\\b", "\\bObject\\b",
        "\\w+Exact\\b", "\\bhashCode\\b", "\\btoString\\b", "\\bThread\\b", "\\bjava\\.",
        "\\bSystem\\.(?!arraycopy\\b)",
    };
    private static final String EXCEPTIONS =
            "(IllegalStateException|IllegalArgumentException|IndexOutOfBoundsException)";

    public static void main(String[] args) throws IOException {
        String source = Files.readString(Path.of("src/main/java/CrateCushions.java"));
        // Comments may say what code may not.
        String code = source.replaceAll("(?s)/\\*.*?\\*/", "").replaceAll("//[^\n]*", "");
        for (String barred : BARRED) {
            Matcher found = Pattern.compile(barred, Pattern.MULTILINE).matcher(code);
            Check.no("the class has " + barred, found.find());
        }
        throwsAreWritten(code);
        staticFieldsAreFinal(code);
        charactersAreNarrow(source);
        Check.end("LanguageTest");
    }

    private static void throwsAreWritten(String code) {
        int all = count(code, "\\bthrow\\b");
        int written = count(code, "\\bthrow new " + EXCEPTIONS + "\\((\"[^\"]*\")?\\);");
        Check.same("throws of a written text", written, all);
    }

    private static void staticFieldsAreFinal(String code) {
        Check.same("static fields that are not final", count(code, "\\bstatic (?!final\\b)[\\w\\[\\]]+ \\w+\\s*[=;]"), 0);
    }

    private static void charactersAreNarrow(String source) {
        Check.yes("characters 0 to 255 alone", source.chars().allMatch(c -> c <= 255));
    }

    private static int count(String code, String pattern) {
        Matcher matcher = Pattern.compile(pattern).matcher(code);
        int count = 0;
        while (matcher.find()) {
            count++;
        }
        return count;
    }
}
