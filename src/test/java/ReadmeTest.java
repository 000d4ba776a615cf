import java.io.IOException;
import java.nio.file.Files;
import java.nio.file.Path;
import java.util.Arrays;
import java.util.Map;
import java.util.Set;
import java.util.TreeMap;
import java.util.TreeSet;
import java.util.regex.Matcher;
import java.util.regex.Pattern;
import java.util.stream.Collectors;
import java.util.stream.Stream;

/** README.md beside the program, the document and the tests. Run from the project's root. */
public final class ReadmeTest {
    private static final Due due = new Due();
    private static final Pattern CALL = Pattern.compile("study\\.(\\w+)\\(([^)]*)\\);\\s*// (-?\\d+)(?!\\d)");
    private static final Pattern ERROR = Pattern.compile("INVALID_ARGUMENT|LIMIT_REACHED|NOT_FOUND|CONTRADICTION");

    public static void main(String[] args) throws ReflectiveOperationException, IOException {
        String readme = Files.readString(Path.of("README.md"));
        String document = Files.readString(Path.of("../shared/DOC.md"));
        callsAnswerAsTold(readme);
        methodsAsInTheDocument(readme, document);
        errorsByTheirRank(readme);
        due.holds("the tests of README.md are those that there are: " + testsOf(readme),
                testsOf(readme).equals(testsThatThereAre()));
        due.end();
    }

    private static void callsAnswerAsTold(String readme) throws ReflectiveOperationException {
        int calls = 0;
        DieStudy study = new DieStudy();
        for (String line : readme.lines().filter(line -> line.contains("study")).toList()) {
            if (line.startsWith("DieStudy study = new DieStudy();")) {
                study = new DieStudy();
            } else if (line.startsWith("study.")) {
                calls++;
                answersAsTold(study, line);
            }
        }
        due.holds("README.md shows calls", calls > 0);
    }

    private static void answersAsTold(DieStudy study, String line) throws ReflectiveOperationException {
        Matcher call = CALL.matcher(line);
        boolean isCall = call.find();
        due.holds("a call and its answer: " + line, isCall);
        if (isCall) {
            due.is(call.group(), answer(study, call.group(1), call.group(2)), Integer.parseInt(call.group(3)));
        }
    }

    private static int answer(DieStudy study, String method, String numbers) throws ReflectiveOperationException {
        Object[] arguments = numbers.isEmpty() ? new Object[0]
                : Stream.of(numbers.split(", ")).map(Integer::valueOf).toArray();
        Class<?>[] types = new Class<?>[arguments.length];
        Arrays.fill(types, int.class);
        return (int) DieStudy.class.getMethod(method, types).invoke(study, arguments);
    }

    private static void methodsAsInTheDocument(String readme, String document) {
        Map<String, Set<String>> told = new TreeMap<>();
        Matcher row = Pattern.compile("(?m)^\\| `(\\w+\\([\\w, ]*\\))` \\|[^|]*\\|([^|]*)\\|$").matcher(readme);
        while (row.find()) {
            told.put(row.group(1), errorsIn(row.group(2)));
        }
        Map<String, Set<String>> wanted = new TreeMap<>();
        Matcher promise = Pattern.compile("(?s)\n`int (\\w+\\([^)]*\\))`\n(.*?)(?=\n## )").matcher(document);
        while (promise.find()) {
            wanted.put(promise.group(1).replace("int ", ""), errorsIn(promise.group(2)));
        }
        due.is("methods of the document", wanted.size(), 24);
        due.holds("methods and errors of README.md: " + told, told.equals(wanted));
    }

    private static Set<String> errorsIn(String text) {
        return ERROR.matcher(text).results().map(found -> found.group()).collect(Collectors.toCollection(TreeSet::new));
    }

    private static void errorsByTheirRank(String readme) {
        Matcher row = Pattern.compile("(?m)^\\| `([A-Z_]+)` \\| (-\\d) \\|").matcher(readme);
        String found = row.results().map(error -> error.group(1) + error.group(2)).collect(Collectors.joining(" "));
        due.holds("errors of README.md: " + found, found.equals("INVALID_ARGUMENT" + DieStudy.INVALID_ARGUMENT
                + " LIMIT_REACHED" + DieStudy.LIMIT_REACHED + " NOT_FOUND" + DieStudy.NOT_FOUND
                + " CONTRADICTION" + DieStudy.CONTRADICTION));
    }

    private static Set<String> testsOf(String readme) {
        Matcher row = Pattern.compile("(?m)^\\| `(\\w+Test)` \\|").matcher(readme);
        return row.results().map(test -> test.group(1)).collect(Collectors.toCollection(TreeSet::new));
    }

    private static Set<String> testsThatThereAre() throws IOException {
        try (Stream<Path> files = Files.list(Path.of("src/test/java"))) {
            return files.map(file -> file.getFileName().toString()).filter(name -> name.endsWith("Test.java"))
                    .map(name -> name.replace(".java", "")).collect(Collectors.toCollection(TreeSet::new));
        }
    }
}
