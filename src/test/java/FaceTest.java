import java.io.IOException;
import java.lang.reflect.Method;
import java.nio.file.Files;
import java.nio.file.Path;
import java.util.ArrayList;
import java.util.List;
import java.util.regex.Matcher;
import java.util.regex.Pattern;

/** "The public face", what the interface says ahead of its calls, and each promise's own line; run from the project's folder. */
public final class FaceTest {

    private static final String SOURCE = "src/main/java/WhoseGlass.java";
    private static final String DOCUMENT = "../shared/DOC.md";

    private static final Check check = new Check("FaceTest");

    public static void main(String[] args) throws IOException {
        String source = Files.readString(Path.of(SOURCE));
        String document = Files.readString(Path.of(DOCUMENT));
        List<String> face = all(document, "(?m)^    public (.*);$");
        check.due("calls of the face, and the constructor", face.size(), 40);
        hasEachLineOfTheFace(source, face);
        promisesEachCall(document, face);
        saysWhatTheInterfaceSays(source, document);
        elementAloneThrows();
        check.end();
    }

    private static List<String> all(String text, String pattern) {
        List<String> found = new ArrayList<>();
        Matcher m = Pattern.compile(pattern).matcher(text);
        while (m.find()) {
            found.add(m.group(1));
        }
        return found;
    }

    private static void hasEachLineOfTheFace(String source, List<String> face) {
        check.holds("the class is named as in the face", source.contains("\npublic final class WhoseGlass {\n"));
        List<String> built = all(source, "(?m)^ +public (.*) \\{$");
        check.holds("the class has the lines of the face, in their order: " + built, built.equals(face));
    }

    private static void promisesEachCall(String document, List<String> face) {
        List<String> promised = all(document, "(?m)^## Promise \\d+: .*\\n\\n`([^`]*)`: ");
        check.due("promises", promised.size(), face.size());
        for (int i = 0; i < promised.size(); i++) {
            check.holds("promise " + (i + 1) + " is about a line of the face: " + promised.get(i),
                    i < face.size() && promised.get(i).equals(face.get(i)));
        }
    }

    /** Each call stands behind the words that the interface says ahead of it, and behind no later ones. */
    private static void saysWhatTheInterfaceSays(String source, String document) {
        Matcher said = Pattern.compile("(?m)^Ahead of the calls (.*) the interface says: (---- .*)\\.$").matcher(document);
        int calls = 0;
        while (said.find()) {
            for (String call : all(said.group(1), "`(\\w+)`")) {
                int at = source.indexOf("    public " + (call.equals("element") ? "long " : "int ") + call + "(");
                int words = source.lastIndexOf("// ----", at);
                check.holds(call + " is there", at >= 0);
                check.holds(call + " stands behind " + said.group(2),
                        words >= 0 && source.startsWith("// " + said.group(2) + "\n", words));
                calls++;
            }
        }
        check.due("calls behind such words", calls, 39);
    }

    private static void elementAloneThrows() {
        for (Method method : WhoseGlass.class.getMethods()) {
            if (method.getDeclaringClass() != WhoseGlass.class) {
                continue;
            }
            List<Class<?>> thrown = List.of(method.getExceptionTypes());
            List<Class<?>> due = method.getName().equals("element")
                    ? List.of(IllegalArgumentException.class, IllegalStateException.class) : List.of();
            check.holds(method.getName() + " says that it throws " + due, thrown.equals(due));
        }
    }
}
