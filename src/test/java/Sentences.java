import java.io.IOException;
import java.nio.file.Files;
import java.nio.file.Path;
import java.util.function.Consumer;

/**
 * The sentences of one section of the document, each with a test of its own. The words are looked for
 * in the document itself, so that none can be left out and none can be made up; run from the project's
 * root.
 */
final class Sentences {
    private static final Path DOCUMENT = Path.of("../shared/DOC.md");

    private final String heading;
    private final String words;
    private final boolean[] tested;
    private boolean allHold = true;

    Sentences(String heading) throws IOException {
        this.heading = heading;
        words = section(heading);
        tested = new boolean[words.length()];
    }

    /** The text under a heading in one line, without the signature of a call and the marks of a block. */
    private static String section(String heading) throws IOException {
        StringBuilder text = new StringBuilder();
        boolean inside = false;
        for (String line : Files.readAllLines(DOCUMENT)) {
            if (line.startsWith("## ")) {
                inside = line.equals("## " + heading);
            } else if (inside && !line.startsWith("```")) {
                text.append(' ').append(line);
            }
        }
        return text.toString().replaceAll("\\s+", " ").replaceFirst("^ `[^`]*\\)`: ", "").trim();
    }

    void hold(String part, Consumer<Due> test) {
        mark(part);
        Due due = new Due(heading + ", '" + part + "': ");
        test.accept(due);
        allHold &= due.holds();
    }

    /** For words that name nothing that a call could answer. */
    void nameNoEdge(String part) {
        mark(part);
    }

    private void mark(String part) {
        int at = words.indexOf(part);
        while (at >= 0 && tested[at]) {
            at = words.indexOf(part, at + 1);
        }
        if (at < 0) {
            allHold = false;
            System.out.println(heading + ": the document does not say '" + part + "' (so often)");
            return;
        }
        for (int i = at; i < at + part.length(); i++) {
            tested[i] = true;
        }
    }

    void end() {
        StringBuilder rest = new StringBuilder();
        for (int i = 0; i < tested.length; i++) {
            if (!tested[i]) {
                rest.append(words.charAt(i));
            }
        }
        if (words.isEmpty() || !rest.toString().isBlank()) {
            allHold = false;
            System.out.println(heading + ": there is no test for '" + rest.toString().trim() + "'");
        }
        if (!allHold) {
            System.exit(1);
        }
    }
}
