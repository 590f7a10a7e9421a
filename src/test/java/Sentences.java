import java.io.IOException;
import java.nio.file.Files;
import java.nio.file.Path;
import java.util.BitSet;
import java.util.LinkedHashMap;
import java.util.Map;

/**
 * The document sentence by sentence: a test first says which one it is about, then what is due by it.
 * A sentence that the document does not have, and one that no test is about, are faults.
 */
final class Sentences {

    private static final Path DOCUMENT = Path.of("../shared/DOC.md");

    private final Check check = new Check("SentencesTest");
    private final Map<String, String> parts = new LinkedHashMap<>();
    private final Map<String, BitSet> told = new LinkedHashMap<>();
    private String sentence = "";
    private boolean looked = true;

    Sentences() throws IOException {
        for (String part : Files.readString(DOCUMENT).split("\n## ")) {
            int end = part.indexOf('\n');
            String name = part.substring(0, end).replaceAll(":.*", "");
            parts.put(name, plain(part.substring(end)));
            told.put(name, new BitSet());
        }
    }

    /** Without what frames the sentences: fences, numbers of terms, what the interface says, the calls' own lines. */
    private static String plain(String part) {
        return part.replaceAll("```java[^`]*```", "")
                .replaceAll("```(text)?", "")
                .replaceAll("(?m)^==== \\d ", "")
                .replaceAll("(?m)^Ahead of the calls .*$", "")
                .replaceAll("(?m)^`[^`]*`: ", "")
                .replaceAll("\\s+", " ");
    }

    /** The test that begins here is about a sentence under Terms. */
    void says(String of) {
        says("Terms", of);
    }

    /** The test that begins here is about a sentence of a promise. */
    void promises(int number, String of) {
        says("Promise " + number, of);
    }

    void says(String part, String of) {
        endOne();
        sentence = part + ": " + of;
        looked = false;
        String text = parts.getOrDefault(part, "");
        int at = text.indexOf(of);
        check.holds("the document says once: " + sentence, at >= 0 && text.indexOf(of, at + 1) < 0);
        if (at >= 0) {
            told.get(part).set(at, at + of.length());
        }
    }

    void due(String call, long got, long want) {
        looked = true;
        check.due("[" + sentence + "] " + call, got, want);
    }

    void same(String what, String got, String want) {
        looked = true;
        check.holds("[" + sentence + "] " + what + " is " + want + ", not " + got, got.equals(want));
    }

    void end() {
        endOne();
        parts.forEach((name, text) -> {
            // What is not promised can't be looked at; all else can.
            if (!name.equals("Not promised")) {
                check.holds("every sentence under " + name + " has a test: " + untold(name),
                        untold(name).isEmpty());
            }
        });
        check.end();
    }

    private void endOne() {
        check.holds("something is looked at by [" + sentence + "]", looked);
    }

    private String untold(String name) {
        String text = parts.get(name);
        StringBuilder untold = new StringBuilder();
        for (int i = 0; i < text.length(); i++) {
            if (!told.get(name).get(i)) {
                untold.append(text.charAt(i));
            }
        }
        return untold.toString().strip();
    }
}
