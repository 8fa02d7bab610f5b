import java.io.IOException;
import java.net.URL;
import java.net.URLClassLoader;
import java.nio.file.Files;
import java.nio.file.Path;
import java.util.ArrayList;
import java.util.Comparator;
import java.util.List;
import java.util.Set;
import java.util.TreeSet;
import java.util.regex.Matcher;
import java.util.regex.Pattern;
import java.util.stream.Collectors;
import java.util.stream.Stream;
import javax.tools.JavaCompiler;
import javax.tools.ToolProvider;

/** What README.md says holds: its example answers what it tells, its tables name the calls and tests there are. */
public final class ReadmeTest {
    private static final Path README = Path.of("README.md");
    private static final Path DOCUMENT = Path.of("../shared/DOC.md");
    private static final Path TESTS = Path.of("src/test/java");
    private static final Pattern TOLD = Pattern.compile("(?:int (\\w+) = )?(.*);\\s*// (throws \\w+|[^, ]+)(,.*)?");

    private static final Checks CHECKS = new Checks("ReadmeTest");

    private ReadmeTest() {
    }

    public static void main(String[] args) throws IOException, ReflectiveOperationException {
        String readme = Files.readString(README);
        exampleAnswersWhatItTells(readme);
        callsAreTheDocuments(readme);
        testsAreThoseThereAre(readme);
        pathsExist(readme);
        CHECKS.end();
    }

    private static void exampleAnswersWhatItTells(String readme) throws IOException, ReflectiveOperationException {
        int begin = readme.indexOf("```java\n");
        int end = readme.indexOf("```", begin + 3);
        CHECKS.is("there is an example", true, begin >= 0 && end > begin);
        if (begin < 0 || end < begin) {
            return;
        }
        List<String> calls = new ArrayList<>();
        List<String> due = new ArrayList<>();
        StringBuilder code = new StringBuilder();
        for (String line : readme.substring(begin + "```java\n".length(), end).split("\n")) {
            Matcher told = TOLD.matcher(line);
            if (told.matches()) {
                calls.add(told.group(2));
                due.add(told.group(3));
                boolean isKept = told.group(1) != null;
                code.append(isKept ? line + "\ntold.add(\"\" + " + told.group(1) + ");" : asking(told.group(2)));
            } else {
                code.append(line);
            }
            code.append('\n');
        }
        List<?> got = run(code.toString());
        CHECKS.is("calls of the example that tell an answer", true, due.size() >= 10);
        CHECKS.is("answers of the example", due.size(), got.size());
        for (int i = 0; i < Math.min(due.size(), got.size()); i++) {
            CHECKS.is("the example's " + calls.get(i), due.get(i), (String) got.get(i));
        }
    }

    private static String asking(String call) {
        return "try { told.add(\"\" + " + call + "); } catch (RuntimeException thrown) {"
                + " told.add(\"throws \" + thrown.getClass().getSimpleName()); }";
    }

    /** Compiles the example and answers what its calls did; nothing if it does not compile. */
    private static List<?> run(String code) throws IOException, ReflectiveOperationException {
        Path folder = Files.createTempDirectory("readme");
        try {
            Path file = folder.resolve("Example.java");
            Files.writeString(file, "public final class Example { public static java.util.List<String> told() {\n"
                    + "java.util.List<String> told = new java.util.ArrayList<>();\n" + code + "return told; } }\n");
            JavaCompiler compiler = ToolProvider.getSystemJavaCompiler();
            boolean isCompiled = compiler != null && compiler.run(null, null, null, "-encoding", "UTF-8",
                    "-cp", System.getProperty("java.class.path"), "-d", folder.toString(), file.toString()) == 0;
            CHECKS.is("the example compiles", true, isCompiled);
            if (!isCompiled) {
                return List.of();
            }
            try (URLClassLoader loader = new URLClassLoader(new URL[] {folder.toUri().toURL()})) {
                return (List<?>) loader.loadClass("Example").getMethod("told").invoke(null);
            }
        } finally {
            delete(folder);
        }
    }

    private static void delete(Path folder) throws IOException {
        List<Path> all;
        try (Stream<Path> walked = Files.walk(folder)) {
            all = walked.sorted(Comparator.reverseOrder()).collect(Collectors.toList());
        }
        for (Path path : all) {
            Files.delete(path);
        }
    }

    /** Each row of calls names just the promises of the document that it counts, in their order. */
    private static void callsAreTheDocuments(String readme) throws IOException {
        List<String> promised = new ArrayList<>();
        Matcher heading = Pattern.compile("(?m)^## Promise (\\d+): (.+)$").matcher(Files.readString(DOCUMENT));
        while (heading.find()) {
            promised.add(heading.group(2));
            CHECKS.is("the number of " + heading.group(2), promised.size(), Integer.parseInt(heading.group(1)));
        }
        int next = 2;
        Matcher row = Pattern.compile("(?m)^\\| [^|`]+ \\| (`[^|]+`) \\| (\\d+) to (\\d+) \\|$").matcher(readme);
        while (row.find()) {
            int first = Integer.parseInt(row.group(2));
            int last = Integer.parseInt(row.group(3));
            CHECKS.is("a row begins where the one before it ended", next, first);
            boolean isCounted = first >= 1 && first <= last && last <= promised.size();
            CHECKS.is("promises " + first + " to " + last + " are in the document", true, isCounted);
            if (isCounted) {
                CHECKS.is("calls of the promises " + first + " to " + last,
                        "`" + String.join("`, `", promised.subList(first - 1, last)) + "`", row.group(1));
            }
            next = last + 1;
        }
        CHECKS.is("all promises have a row", promised.size() + 1, next);
    }

    private static void testsAreThoseThereAre(String readme) throws IOException {
        Set<String> tests = new TreeSet<>();
        for (String file : testFiles()) {
            CHECKS.is(file + " is told of", true, readme.contains("`" + file + "`"));
            if (file.endsWith("Test")) {
                tests.add(file);
            }
        }
        Set<String> rows = new TreeSet<>();
        Matcher row = Pattern.compile("(?m)^\\| `(\\w+Test)` \\|").matcher(readme);
        while (row.find()) {
            rows.add(row.group(1));
        }
        CHECKS.is("the tests that have a row", tests.toString(), rows.toString());
    }

    private static List<String> testFiles() throws IOException {
        try (Stream<Path> files = Files.list(TESTS)) {
            return files.map(file -> file.getFileName().toString()).filter(name -> name.endsWith(".java"))
                    .map(name -> name.substring(0, name.length() - ".java".length())).sorted()
                    .collect(Collectors.toList());
        }
    }

    private static void pathsExist(String readme) {
        Matcher path = Pattern.compile("`((?:\\.\\./|\\.ci/|src/)[\\w./]+)`").matcher(readme);
        int found = 0;
        while (path.find()) {
            found++;
            CHECKS.is(path.group(1) + " exists", true, Files.exists(Path.of(path.group(1))));
        }
        CHECKS.is("paths that are named", true, found >= 4);
        CHECKS.is("how to run the tests is told", true, readme.contains("```sh\n.ci/run\n```"));
        CHECKS.is(".ci/run can be run", true, Files.isExecutable(Path.of(".ci/run")));
    }
}
