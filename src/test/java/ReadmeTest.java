import java.io.IOException;
import java.lang.reflect.Method;
import java.nio.file.Files;
import java.nio.file.Path;
import java.util.HashSet;
import java.util.List;
import java.util.Set;
import java.util.regex.Matcher;
import java.util.regex.Pattern;

/** README.md makes one program: each call in it must give the answer behind it; run from the project's folder. */
public final class ReadmeTest {

    private static final Path PLACE = Path.of("build/readme");
    private static final Pattern BLOCK = Pattern.compile("(?m)^```java\\n([\\s\\S]*?)^```$");
    private static final Pattern ANSWER = Pattern.compile("x\\.(\\w+\\(.*\\)); +// (-?\\d+)\\b.*");
    private static final Pattern THROWN = Pattern.compile("x\\.(\\w+\\(.*\\)); +// throws (\\w+)");

    private static final Check check = new Check("ReadmeTest");
    private static final Set<String> shown = new HashSet<>();

    public static void main(String[] args) throws Exception {
        String readme = Files.readString(Path.of("README.md"));
        String program = programOf(readme);
        showsEachCall();
        namesTestsThatAreThere(readme);
        saysHowTestsAreRun(readme);
        check.due("what the program of README.md finds wrong", run(program), 0);
        check.end();
    }

    private static String programOf(String readme) {
        StringBuilder program = new StringBuilder();
        Matcher block = BLOCK.matcher(readme);
        while (block.find()) {
            block.group(1).lines().forEach(row -> program.append(checked(row)).append('\n'));
        }
        return "public final class ReadmeProgram {\n"
                + "static int wrong;\n"
                + "static void due(String call, long got, long want) {\n"
                + "if (got != want) { wrong++; System.out.println(\"README.md: \" + call + \" answered \" + got"
                + " + \", not \" + want); } }\n"
                + "static void notThrown(String call) { wrong++; System.out.println(\"README.md: \" + call"
                + " + \" threw nothing\"); }\n"
                + "public static void main(String[] args) {\n" + program + "System.exit(wrong == 0 ? 0 : 1);\n} }\n";
    }

    /** A row as it stands there, or with a look at its answer. */
    private static String checked(String row) {
        Matcher answer = ANSWER.matcher(row);
        if (answer.matches()) {
            String call = answer.group(1);
            shown.add(nameOf(call));
            return "due(\"" + call + "\", x." + call + ", " + answer.group(2) + "L);";
        }
        Matcher thrown = THROWN.matcher(row);
        if (thrown.matches()) {
            String call = thrown.group(1);
            return "try { x." + call + "; notThrown(\"" + call + "\"); } catch (" + thrown.group(2) + " asTold) { }";
        }
        // The one call without an answer stands in the loop that puts a text on a shelf.
        check.holds("each call of README.md has its answer: " + row, !row.contains("x.") || row.startsWith("    x.put("));
        return row;
    }

    private static String nameOf(String call) {
        return call.substring(0, call.indexOf('('));
    }

    private static void showsEachCall() {
        for (Method method : WhoseGlass.class.getMethods()) {
            boolean ofFace = method.getDeclaringClass() == WhoseGlass.class;
            check.holds("README.md shows " + method.getName(), !ofFace || shown.contains(method.getName()));
        }
    }

    private static void namesTestsThatAreThere(String readme) {
        Matcher name = Pattern.compile("`(\\w+Test)`").matcher(readme);
        Set<String> named = new HashSet<>();
        while (name.find()) {
            named.add(name.group(1));
        }
        check.holds("README.md names tests", named.size() > 4);
        for (String test : named) {
            check.holds(test + " is there", Files.exists(Path.of("src/test/java/" + test + ".java")));
        }
    }

    private static void saysHowTestsAreRun(String readme) {
        check.holds("README.md says how to run all tests", readme.contains("```sh\n.ci/run\n```"));
        check.holds(".ci/run can be run", Files.isExecutable(Path.of(".ci/run")));
        Matcher one = Pattern.compile("(?m)^java -cp (\\S+) (\\w+)$").matcher(readme);
        check.holds("README.md says how to run one test", one.find());
        check.holds(one.group() + " finds it", Files.exists(Path.of(one.group(1), one.group(2) + ".class")));
        List<String> paths = List.of("src/main/java/WhoseGlass.java", "../shared/DOC.md", "../shared/LANGUAGE.md",
                "src/test/java", "../shared/tests");
        for (String path : paths) {
            check.holds(path + " is named and there", readme.contains(path) && Files.exists(Path.of(path)));
        }
    }

    private static int run(String program) throws IOException, InterruptedException {
        Files.createDirectories(PLACE);
        Path file = PLACE.resolve("ReadmeProgram.java");
        Files.writeString(file, program);
        String place = PLACE.toString();
        int compiled = end("javac", "-d", place, "src/main/java/WhoseGlass.java", file.toString());
        return compiled != 0 ? compiled : end("java", "-cp", place, "ReadmeProgram");
    }

    private static int end(String... command) throws IOException, InterruptedException {
        return new ProcessBuilder(command).inheritIO().start().waitFor();
    }
}
