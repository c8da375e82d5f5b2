import java.io.File;
import java.io.IOException;
import java.lang.reflect.Method;
import java.lang.reflect.Modifier;
import java.net.URL;
import java.net.URLClassLoader;
import java.nio.file.Files;
import java.nio.file.Path;
import java.util.ArrayList;
import java.util.List;
import java.util.Set;
import java.util.TreeSet;
import java.util.regex.Matcher;
import java.util.regex.Pattern;
import java.util.spi.ToolProvider;
import java.util.stream.Collectors;
import java.util.stream.Stream;

/** That README.md's example answers what its remarks say, and that its tables name every call and every test. */
public final class ReadmeTest {
    private static final String ANSWER = "(?:-?\\d+|NONE|OUTSIDE|STATE|ROOM)";
    /** Such as "int lamp = x.object(); // 0" or "x.hand(); // 2: so many"; several answers are those of a loop. */
    private static final Pattern ANSWERED = Pattern.compile(
        " *(?:(?:int|long) (\\w+) = )?(x\\.(\\w+)\\(.*?\\)); +// (" + ANSWER + "(?:, " + ANSWER + ")*)(?::.*)?");
    private static final Pattern FIRST_CELL = Pattern.compile("\\| ([^|]*) \\|.*");
    private static final Pattern NAME = Pattern.compile("`([^`]*)`");
    private static final Path TESTS = Path.of("src", "test", "java");

    public static void main(String[] args) throws Exception {
        Check c = new Check();
        List<String> readme = Files.readAllLines(Path.of("README.md"));
        exampleAnswersWhatItSays(c, readme);
        tablesNameEveryCall(c, readme);
        tablesNameEveryTest(c, readme);
        c.end();
    }

    private static void exampleAnswersWhatItSays(Check c, List<String> readme) throws Exception {
        List<String> example = example(readme);
        List<String> answers = run(source(example));
        Set<String> shown = new TreeSet<>();
        for (int k = 0; k < example.size(); k++) {
            Matcher line = ANSWERED.matcher(example.get(k));
            if (line.matches()) {
                shown.add(line.group(3));
                String got = String.join(", ", answersOf(answers, k));
                c.due(example.get(k) + " [" + got + "]", got.equals(numbers(line.group(4))) ? 1 : 0, 1);
            } else {
                boolean bare = example.get(k).trim().matches("(|}|for .*|FacetFigures x = new FacetFigures\\(\\);)");
                c.due("a call without its answer: " + example.get(k), bare ? 1 : 0, 1);
            }
        }
        for (String call : calls()) {
            c.due("the example shows " + call, shown.contains(call) ? 1 : 0, 1);
        }
    }

    private static List<String> example(List<String> readme) {
        int first = readme.indexOf("```java") + 1;
        return readme.subList(first, first + readme.subList(first, readme.size()).indexOf("```"));
    }

    /** The example as a class whose method tells the answers, each behind the number of its line. */
    private static String source(List<String> example) {
        StringBuilder text = new StringBuilder("public final class Example {\n");
        text.append("public static java.util.List<String> answers() {\n");
        text.append("java.util.List<String> answers = new java.util.ArrayList<>();\n");
        for (int k = 0; k < example.size(); k++) {
            Matcher line = ANSWERED.matcher(example.get(k));
            boolean answered = line.matches();
            String name = answered ? line.group(1) : null;
            if (!answered || name != null) {
                text.append(example.get(k)).append('\n');
            }
            if (answered) {
                text.append("answers.add(\"").append(k).append(" \" + ").append(name == null ? line.group(2) : name);
                text.append(");\n");
            }
        }
        return text.append("return answers;\n}\n}\n").toString();
    }

    private static List<String> run(String source) throws Exception {
        Path dir = Files.createTempDirectory("readme");
        try {
            Path file = Files.writeString(dir.resolve("Example.java"), source);
            int failed = ToolProvider.findFirst("javac").orElseThrow().run(System.out, System.err,
                "-cp", System.getProperty("java.class.path"), "-d", dir.toString(), file.toString());
            if (failed != 0) {
                throw new IllegalStateException("README.md's example does not compile:\n" + source);
            }
            return answers(dir);
        } finally {
            remove(dir);
        }
    }

    private static List<String> answers(Path dir) throws Exception {
        List<String> told = new ArrayList<>();
        try (URLClassLoader loader = new URLClassLoader(new URL[] {dir.toUri().toURL()})) {
            Object list = loader.loadClass("Example").getMethod("answers").invoke(null);
            for (Object one : (List<?>) list) {
                told.add(String.valueOf(one));
            }
        }
        return told;
    }

    private static void remove(Path dir) throws IOException {
        try (Stream<Path> files = Files.list(dir)) {
            files.map(Path::toFile).forEach(File::delete);
        }
        Files.delete(dir);
    }

    private static List<String> answersOf(List<String> answers, int line) {
        return answers.stream().filter(one -> one.startsWith(line + " "))
            .map(one -> one.substring(one.indexOf(' ') + 1)).collect(Collectors.toList());
    }

    private static String numbers(String words) {
        return Stream.of(words.split(", ")).map(word -> String.valueOf(Call.number(word)))
            .collect(Collectors.joining(", "));
    }

    private static Set<String> calls() {
        Set<String> names = new TreeSet<>();
        for (Method one : FacetFigures.class.getDeclaredMethods()) {
            if (Modifier.isPublic(one.getModifiers())) {
                names.add(one.getName());
            }
        }
        return names;
    }

    private static void tablesNameEveryCall(Check c, List<String> readme) {
        Set<String> named = new TreeSet<>();
        for (String name : firstCells(readme)) {
            if (name.endsWith(")")) {
                named.add(name.substring(0, name.indexOf('(')));
            }
        }
        c.due("calls in the table " + named, named.equals(calls()) ? 1 : 0, 1);
    }

    /** Those of ../shared/tests are not the project's to count: more of them may come with an issue. */
    private static void tablesNameEveryTest(Check c, List<String> readme) throws IOException {
        Set<String> named = new TreeSet<>();
        for (String name : firstCells(readme)) {
            if (!name.endsWith(")") && !name.startsWith("../")) {
                named.add(name + ".java");
            }
        }
        try (Stream<Path> files = Files.list(TESTS)) {
            Set<String> there = files.map(file -> file.getFileName().toString())
                .collect(Collectors.toCollection(TreeSet::new));
            c.due("tests in the table " + named + ", there are " + there, named.equals(there) ? 1 : 0, 1);
        }
    }

    /** What stands between backticks in the first cell of each row of a table. */
    private static List<String> firstCells(List<String> readme) {
        List<String> names = new ArrayList<>();
        for (String line : readme) {
            Matcher row = FIRST_CELL.matcher(line);
            Matcher name = NAME.matcher(row.matches() ? row.group(1) : "");
            while (name.find()) {
                names.add(name.group(1));
            }
        }
        return names;
    }
}
