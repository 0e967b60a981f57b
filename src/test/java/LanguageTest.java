import java.io.IOException;
import java.nio.file.Files;
import java.nio.file.Path;
import java.util.regex.Matcher;
import java.util.regex.Pattern;

/**
 * What of LANGUAGE.md can be seen in the text of the class: it uses no library, throws and catches nothing,
 * and no static field can change. It is run where .ci/run runs it, in the project's directory.
 */
public final class LanguageTest {
    private static final Path SOURCE = Path.of("src", "main", "java", "FaultLoom.java");
    private static final String[] RULED_OUT = {"\\bimport\\b", "\\bpackage\\b", "\\btry\\b", "\\bcatch\\b", "\\bthrow\\b",
        "\\bfinally\\b", "\\bsynchronized\\b", "\\bassert\\b", "->", "::", "\\bMath\\b", "\\bSystem\\b", "\\bstatic\\s*\\{",
        "\\bstatic (?!final|int|boolean|double)\\w+"};

    public static void main(String[] args) throws IOException {
        Due due = new Due();
        String code = Files.readString(SOURCE).replaceAll("(?s)/\\*.*?\\*/", "").replaceAll("//[^\n]*", "");
        for (String form : RULED_OUT) {
            Matcher found = Pattern.compile(form).matcher(code);
            if (found.find()) {
                due.miss(SOURCE.toString(), "'" + found.group() + "'", "none of " + form);
            }
        }
        due.is("signs over 127", code.chars().filter(sign -> sign > 127).count(), 0);
        due.end();
    }
}
