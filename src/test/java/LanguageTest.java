import java.io.IOException;
import java.nio.file.Files;
import java.nio.file.Path;
import java.util.regex.Matcher;
import java.util.regex.Pattern;

/** Those rules of LANGUAGE.md that the program's text can be searched for. Run from the project's root. */
public final class LanguageTest {
    private static final Due due = new Due();
    private static final String[] RULED_OUT = {
        "\\b(throw|throws|try|catch|synchronized|assert|native|volatile)\\b",
        "->|::",
        "\\b(Float|Double|Object|Exception|Throwable|Random|Thread|HashMap)\\b",
        "\\bSystem\\.(?!arraycopy\\b)",
        "Exact\\s*\\(",
        "\\b(hashCode|toString|equals)\\s*\\(",
        "\\bpackage\\b",
        "\\bimport\\s+(?!java\\.util\\.(Arrays|ArrayList|List|Iterator);)",
        "\\bstatic\\s*\\{",
        "\\b(public|protected)\\s+(static\\s+)?(class|record|enum|interface)\\b",
    };

    public static void main(String[] args) throws IOException {
        String program = Files.readString(Path.of("src/main/java/DieStudy.java"));
        String code = program.replaceAll("(?s)/\\*.*?\\*/", "").replaceAll("//[^\n]*", "");
        for (String rule : RULED_OUT) {
            Matcher found = Pattern.compile(rule).matcher(code);
            due.holds("no match of " + rule, !found.find());
        }
        staticFieldsAreConstants(code);
        due.end();
    }

    private static void staticFieldsAreConstants(String code) {
        Matcher field = Pattern.compile("\\bstatic\\b([^;({]*)[;=]").matcher(code);
        while (field.find()) {
            due.holds("static" + field.group(1) + "is a constant", field.group(1).startsWith(" final int "));
        }
    }
}
