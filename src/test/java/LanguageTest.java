import java.io.IOException;
import java.nio.file.Files;
import java.nio.file.Path;
import java.util.regex.Matcher;
import java.util.regex.Pattern;

/** Those rules of LANGUAGE.md that the program's text can be searched for. Run from the project's root. */
public final class LanguageTest {
    private static final Due due = new Due();
    private static final String[] RULED_OUT = {
        "\\b(throw|throws|try|catch|synchronized|assert|native|volatile)\\b",
        "->|::",
        "\\b(Float|Double|Object|Exception|Throwable|Random|Thread|HashMap)\\b",
        "\\bSystem\\.(?!arraycopy\\b)",
        "\\bArrays\\.(?!(copyOf|copyOfRange|fill)\\b)",
        "\\bMath\\.(?!(min|max|abs|floorDiv|floorMod)\\b)",
        "Exact\\s*\\(",
        "\\b(hashCode|toString|equals)\\s*\\(",
        "\\bpackage\\b",
        "\\bimport\\s+(?!java\\.util\\.(Arrays|ArrayList|List|Iterator);)",
        "\\bstatic\\s*\\{",
        "\\b(public|protected)\\s+(static\\s+)?(class|record|enum|interface)\\b",
    };

    public static void main(String[] args) throws IOException {
        String program = Files.readString(Path.of("src/main/java/DieStudy.java"));
        String code = program.replaceAll("(?s)/\\*.*?\\*/", "").replaceAll("//[^\n]*", "");
        for (String rule : RULED_OUT) {
            Matcher found = Pattern.compile(rule).matcher(code);
            due.holds("no match of " + rule, !found.find());
        }
        staticFieldsAreConstants(code);
        objectsAreMadeWithTheStudyAlone(code);
        methodsAreShort(code);
        due.end();
    }

    /** Rule 12 counts what a run makes: here only rows of a study and, in its constructor, its parts. */
    private static void objectsAreMadeWithTheStudyAlone(String code) {
        Pattern made = Pattern.compile(" *private final int(\\[\\])+ \\w+ = new int(\\[[\\w. *]+\\])+;");
        Pattern part = Pattern.compile(" {8}\\w+ = new \\w+\\(\\);");
        String constructor = code.replaceAll("(?s).*?(public DieStudy\\(\\) \\{.*?\n    \\}).*", "$1");
        code.lines().filter(line -> line.matches(".*\\b(new|clone|copyOf|copyOfRange)\\b.*")).forEach(line ->
                due.holds("made with the study: " + line, made.matcher(line).matches()
                        || part.matcher(line).matches() && constructor.contains(line)));
    }

    private static void methodsAreShort(String code) {
        Matcher method = Pattern.compile("(?ms)^( +)(public|private)[^;=\n]*\\) \\{$(.*?)^\\1\\}$").matcher(code);
        int methods = 0;
        while (method.find()) {
            methods++;
            due.holds("sixty lines: " + method.group().lines().findFirst().orElse(""),
                    method.group(3).lines().count() <= 60);
        }
        due.holds("methods were found", methods > 25);
    }

    private static void staticFieldsAreConstants(String code) {
        Matcher field = Pattern.compile("\\bstatic\\b([^;({]*)[;=]").matcher(code);
        while (field.find()) {
            due.holds("static" + field.group(1) + "is a constant", field.group(1).startsWith(" final int "));
        }
    }
}
