import java.io.IOException;
import java.nio.file.Files;
import java.nio.file.Path;
import java.util.regex.Pattern;

/** The rules of LANGUAGE.md that can be seen in the text of the class. Started in the project's folder, as by .ci/run. */
public final class LanguageTest {
    private static final String[] RULED_OUT = {
        "\\bthrow\\b", "\\bthrows\\b", "\\btry\\b", "\\bcatch\\b", "\\bsynchronized\\b", "\\bassert\\b", "->", "::",
        "\\bpackage\\b", "\\bimport\\b", "Exact\\b", "\\bprotected\\b", "\\bstatic\\s*\\{", "\\bequals\\b", "\\bhashCode\\b",
        "\\btoString\\b", "\\bSystem\\.(?!arraycopy)", "\\bThread\\b", "\\bObject\\b", "\\bvar\\b"
    };

    public static void main(String[] args) throws IOException {
        Check check = new Check("LanguageTest");
        String text = Files.readString(Path.of("src/main/java/ShowDesk.java"));
        String code = text.replaceAll("(?s)/\\*.*?\\*/", " ").replaceAll("//[^\n]*", " ");
        for (String ruledOut : RULED_OUT) {
            check.due("is there " + ruledOut, Pattern.compile(ruledOut).matcher(code).find() ? 1 : 0, 0);
        }
        // Rule 5: every static field is final; rule 2: every class inside is static.
        check.due("static fields that are not final", count(code, "\\bstatic\\s+(?!final\\b)[\\w\\[\\]]+\\s+\\w+\\s*[=;]"), 0);
        check.due("classes inside that are not static", count(code, "(?<!static )(?<!static final )(?<!public final )\\bclass\\s"), 0);
        check.due("at most twelve classes", Math.max(12, count(code, "\\bclass\\s")), 12);
        check.due("characters above 127", text.chars().filter(c -> c > 127).count(), 0);
        check.end();
    }

    private static long count(String code, String pattern) {
        return Pattern.compile(pattern).matcher(code).results().count();
    }
}
