import java.io.IOException;
import java.lang.reflect.Field;
import java.lang.reflect.Method;
import java.lang.reflect.Modifier;
import java.nio.file.Files;
import java.nio.file.Path;
import java.util.ArrayList;
import java.util.HashMap;
import java.util.HashSet;
import java.util.List;
import java.util.Map;
import java.util.Set;
import java.util.TreeSet;
import java.util.regex.Matcher;
import java.util.regex.Pattern;

/** What of ../shared/LANGUAGE.md can be seen from the program's text and its face; run from the project's folder. */
public final class LanguageTest {

    private static final String SOURCE = "src/main/java/WhoseGlass.java";
    private static final String DOCUMENT = "../shared/DOC.md";
    private static final int DEEPEST = 8;
    private static final String[] RULED_OUT = {"import ", "->", "::", "finally", "synchronized", "assert ",
        "Exact(", "volatile", "transient", "record ", "Object ", "getMessage", "printStackTrace", "System.out",
        "protected", "ArrayIndexOutOfBounds", "NullPointer", "Arithmetic", "ClassCast", "NegativeArraySize",
        "ArrayStore", "catch (RuntimeException", "catch (IndexOutOfBounds", "catch (Exception", "catch (Throwable",
        "@", "Integer.M", "while (true", "for (;;", " + \"", "\" + "};

    private static final Check check = new Check("LanguageTest");

    public static void main(String[] args) throws IOException {
        String source = Files.readString(Path.of(SOURCE));
        hasTheFaceOfTheDocument(Files.readString(Path.of(DOCUMENT)));
        keepsTheRestPrivate();
        staysSmall();
        Map<String, String> methods = methodsOf(source);
        leavesOutWhatIsRuledOut(source);
        methodsStayShort(methods);
        callsGoNoDeeperThanTold(methods);
        makesObjectsInConstructorsAlone(source);
        check.end();
    }

    private static void hasTheFaceOfTheDocument(String document) {
        Set<String> told = new TreeSet<>();
        Matcher m = Pattern.compile("(?m)^    public (int|long) (\\w+)\\((.*?)\\)").matcher(document);
        while (m.find()) {
            told.add(m.group(1) + " " + m.group(2) + "(" + m.group(3).replaceAll(" \\w+(,|$)", "$1") + ")");
        }
        Set<String> built = new TreeSet<>();
        for (Method method : WhoseGlass.class.getDeclaredMethods()) {
            if (!Modifier.isPrivate(method.getModifiers())) {
                check.holds(method.getName() + " is public", Modifier.isPublic(method.getModifiers()));
                List<String> types = new ArrayList<>();
                for (Class<?> type : method.getParameterTypes()) {
                    types.add(type.getName());
                }
                built.add(method.getReturnType().getName() + " " + method.getName() + "(" + String.join(", ", types) + ")");
            }
        }
        check.holds("the document tells a face", told.size() > 30);
        check.holds("the face is the document's: " + told + " " + built, told.equals(built));
        check.due("constructors", WhoseGlass.class.getDeclaredConstructors().length, 1);
        check.holds("the class is public and final",
                Modifier.isPublic(WhoseGlass.class.getModifiers()) && Modifier.isFinal(WhoseGlass.class.getModifiers()));
    }

    private static void keepsTheRestPrivate() {
        Set<String> face = new HashSet<>();
        for (Method method : WhoseGlass.class.getMethods()) {
            face.add(method.getName());
        }
        for (Field field : WhoseGlass.class.getDeclaredFields()) {
            check.holds(field + " is private", Modifier.isPrivate(field.getModifiers()));
        }
        for (Class<?> type : classes()) {
            for (Method method : type.getDeclaredMethods()) {
                boolean ofFace = Modifier.isPublic(method.getModifiers());
                check.holds(method + " bears no name of the face", ofFace || !face.contains(method.getName()));
            }
            for (Field field : type.getDeclaredFields()) {
                boolean isStatic = Modifier.isStatic(field.getModifiers());
                check.holds(field + " is final", !isStatic || Modifier.isFinal(field.getModifiers()));
            }
        }
        for (Class<?> type : WhoseGlass.class.getDeclaredClasses()) {
            int modifiers = type.getModifiers();
            check.holds(type + " is static", Modifier.isStatic(modifiers));
            check.holds(type + " is kept inside", !Modifier.isPublic(modifiers) && !Modifier.isProtected(modifiers));
        }
    }

    private static List<Class<?>> classes() {
        List<Class<?>> classes = new ArrayList<>(List.of(WhoseGlass.class.getDeclaredClasses()));
        classes.add(WhoseGlass.class);
        return classes;
    }

    private static void staysSmall() {
        check.holds("at most twelve classes", classes().size() <= 12);
        for (Class<?> type : classes()) {
            int fields = 0;
            for (Field field : type.getDeclaredFields()) {
                fields += Modifier.isStatic(field.getModifiers()) ? 0 : 1;
            }
            check.holds(type + " has at most twenty fields", fields <= 20);
            for (Method method : type.getDeclaredMethods()) {
                check.holds(method + " takes at most seven parameters", method.getParameterCount() <= 7);
            }
        }
    }

    private static void leavesOutWhatIsRuledOut(String source) {
        for (String word : RULED_OUT) {
            check.holds("the program is without \"" + word + "\"", !source.contains(word));
        }
        check.holds("its signs are plain", source.chars().allMatch(c -> c == '\n' || c >= 32 && c < 127));
    }

    /** The bodies by names; the project gives each of its methods a name that tells it from the others it calls. */
    private static Map<String, String> methodsOf(String source) {
        Map<String, String> methods = new HashMap<>();
        Matcher m = Pattern.compile("(?m)^( +)(?:(?:public|private|static|final) )*(?:\\w+(?:\\[\\])? )?(\\w+)\\([^;{}]*\\) "
                + "(?:throws [\\w, ]+ )?\\{\\n([\\s\\S]*?)^\\1\\}").matcher(source);
        while (m.find()) {
            methods.merge(m.group(2), m.group(3), String::concat);
        }
        return methods;
    }

    private static void methodsStayShort(Map<String, String> methods) {
        check.holds("methods are found", methods.size() > 80);
        methods.forEach((name, body) ->
                check.holds(name + " has at most sixty lines", body.lines().count() <= 58));
    }

    private static void callsGoNoDeeperThanTold(Map<String, String> methods) {
        for (String name : methods.keySet()) {
            int depth = depthOf(name, methods, new ArrayList<>());
            check.holds(name + " goes " + depth + " deep, at most " + DEEPEST, depth <= DEEPEST);
        }
    }

    private static int depthOf(String name, Map<String, String> methods, List<String> open) {
        if (open.contains(name)) {
            check.holds(name + " does not call itself by " + open, false);
            return 0;
        }
        open.add(name);
        int deepest = 0;
        Matcher m = Pattern.compile("(?<!new )\\b(\\w+)\\(").matcher(methods.get(name));
        while (m.find()) {
            // Methods of one name in two classes (become, begin, told) hand the call to their like: no circle.
            if (methods.containsKey(m.group(1)) && !m.group(1).equals(name)) {
                deepest = Math.max(deepest, depthOf(m.group(1), methods, open));
            }
        }
        open.remove(name);
        return deepest + 1;
    }

    /** So that a long run of calls fills no room: what else is made are exceptions. */
    private static void makesObjectsInConstructorsAlone(String source) {
        List<String> made = new ArrayList<>();
        Matcher m = Pattern.compile("(?m)^.*\\bnew (\\w+).*$").matcher(source);
        while (m.find()) {
            String line = m.group().trim();
            if (!line.startsWith("throw new ") && !line.startsWith("private final ") && !line.startsWith("final ")) {
                made.add(line);
            }
        }
        check.holds("objects are made by constructors: " + made, made.equals(List.of(
                "shelves[d] = new Shelf();", "glasses[i] = new Glass(i);", "guests[i] = new Guest(i);")));
    }
}
