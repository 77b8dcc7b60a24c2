import java.io.IOException;
import java.nio.file.Files;
import java.nio.file.Path;
import java.util.ArrayList;
import java.util.List;

/** The sentences of the document that tests stand under: each must be the document's own words. */
final class Sentences {
    private static final Path DOCUMENT = Path.of("../shared/DOC.md");
    private static final String WORDS = words();
    private static final List<Run> RUNS = new ArrayList<>();
    private static String now = "";
    private static int wrong = 0;
    private static int asked = 0;
    private static int sentences = 0;

    private static String words() {
        try {
            return Files.exists(DOCUMENT) ? plain(Files.readString(DOCUMENT)) : "";
        } catch (IOException e) {
            throw new IllegalStateException("the document cannot be read", e);
        }
    }

    private static String plain(String text) {
        return text.replaceAll("\\s+", " ");
    }

    /** What follows belongs to these words, until the next. */
    static void sentence(String words) {
        holdRuns();
        now = words;
        sentences++;
        if (!WORDS.isEmpty() && !WORDS.contains(plain(words))) wrong("the document has no such words");
    }

    static void keep(Run run) {
        RUNS.add(run);
    }

    static void asked() {
        asked++;
    }

    static void wrong(String what) {
        wrong++;
        System.out.println("\"" + now + "\": " + what);
    }

    private static void holdRuns() {
        for (Run run : RUNS) run.hold();
        RUNS.clear();
    }

    static void end(String name) {
        holdRuns();
        System.out.println(name + ": " + sentences + " sentences, " + asked + " answers, " + wrong + " wrong");
        if (WORDS.isEmpty()) System.out.println("there is no " + DOCUMENT + ": the sentences were not looked up");
        if (wrong != 0) System.exit(1);
    }
}
