import java.io.IOException;
import java.nio.file.Files;
import java.nio.file.Path;
import java.util.ArrayDeque;
import java.util.Map;
import java.util.regex.Pattern;

/** The rules of LANGUAGE.md that can be seen in the text of the class. Started in the project's folder, as by .ci/run. */
public final class LanguageTest {
    private static final Path FILE = Path.of("src/main/java/ShowDesk.java");
    private static final String[] RULED_OUT = {
        "\\bthrow\\b", "\\bthrows\\b", "\\btry\\b", "\\bcatch\\b", "\\bsynchronized\\b", "\\bassert\\b", "->", "::",
        "\\bpackage\\b", "\\bimport\\b", "Exact\\b", "\\bprotected\\b", "\\bstatic\\s*\\{", "\\bequals\\b", "\\bhashCode\\b",
        "\\btoString\\b", "\\bSystem\\.(?!arraycopy)", "\\bThread\\b", "\\bObject\\b", "\\bvar\\b"
    };

    public static void main(String[] args) throws IOException {
        Check check = new Check("LanguageTest");
        checkText(check);
        checkSizes(check, Code.read(FILE));
        check.end();
    }

    private static void checkText(Check check) throws IOException {
        String text = Files.readString(FILE);
        String code = text.replaceAll("(?s)/\\*.*?\\*/", " ").replaceAll("//[^\n]*", " ");
        for (String ruledOut : RULED_OUT) {
            check.due("is there " + ruledOut, Pattern.compile(ruledOut).matcher(code).find() ? 1 : 0, 0);
        }
        // Rule 5: every static field is final; rule 2: every class inside is static.
        check.due("static fields that are not final", count(code, "\\bstatic\\s+(?!final\\b)[\\w\\[\\]]+\\s+\\w+\\s*[=;]"), 0);
        check.due("classes inside that are not static", count(code, "(?<!static )(?<!static final )(?<!public final )\\bclass\\s"), 0);
        check.due("characters above 127", text.chars().filter(c -> c > 127).count(), 0);
    }

    /** Rules 11 and 12. */
    private static void checkSizes(Check check, Code code) {
        atMost(check, "classes", code.fields.size(), 12);
        allAtMost(check, "fields of", code.fields, 20);
        allAtMost(check, "lines of", code.lines, 60);
        allAtMost(check, "parameters of", code.parameters, 7);
        check.due("public methods, and the constructor", code.entries.size(), 24);
        for (String entry : code.entries) {
            atMost(check, "calls deep from " + entry, code.deepest(entry, new ArrayDeque<>()), 8);
        }
        check.due("constructors hand out parts of what they make " + code.handedOut, code.handedOut.size(), 0);
    }

    private static void allAtMost(Check check, String what, Map<String, Integer> sizes, int most) {
        check.due("are there " + what, sizes.isEmpty() ? 0 : 1, 1);
        sizes.forEach((name, size) -> atMost(check, what + " " + name, size, most));
    }

    private static void atMost(Check check, String what, int size, int most) {
        check.due(what + ", or " + most, Math.max(size, most), most);
    }

    private static long count(String code, String pattern) {
        return Pattern.compile(pattern).matcher(code).results().count();
    }
}
