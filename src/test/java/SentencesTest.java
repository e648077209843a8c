import java.io.IOException;
import java.lang.reflect.Method;
import java.nio.file.Files;
import java.nio.file.Path;
import java.util.ArrayList;
import java.util.List;
import java.util.regex.Matcher;
import java.util.regex.Pattern;

/**
 * Each word that the document says under 'Terms' and under its promises is held by some test of an edge.
 * When the document changes, this tells which sentence has no test, and which test holds to words that are gone.
 */
public final class SentencesTest {
    private static final Class<?>[] TESTS = {ThingEdgesTest.class, TaleEdgesTest.class, TapeEdgesTest.class};
    private static int wrong = 0;

    public static void main(String[] args) throws IOException {
        Path file = Path.of(args.length > 1 ? args[1] : "../shared/DOC.md");
        if (!Files.exists(file)) {
            System.out.println("no document at " + file + ": nothing to look at");
            return;
        }
        String document = plain(Files.readString(file));
        List<Part> promises = new ArrayList<>();
        for (int i = 1; i <= 30; i++) {
            promises.add(new Part("promise " + i, promise(document, i)));
        }
        Part terms = new Part("terms", between(document, "==== THINGS", "Ahead of the calls"));
        mark(terms, promises);
        terms.tellUnheld();
        for (Part promise : promises) {
            promise.tellUnheld();
        }
        System.out.println(wrong == 0 ? "each sentence is held" : wrong + " words are not held, or not there");
        if (wrong > 0) {
            System.exit(1);
        }
    }

    private static void mark(Part terms, List<Part> promises) {
        for (Class<?> tests : TESTS) {
            for (Method m : Edges.testsOf(tests)) {
                Says says = m.getAnnotation(Says.class);
                for (String words : says.value()) {
                    promises.get(says.promise() - 1).mark(words);
                }
                for (String words : says.terms()) {
                    terms.mark(words);
                }
            }
        }
    }

    private static String plain(String text) {
        return text.replace("```text", " ").replace("```", " ")
            .replaceAll("(==== )\\d", "$1").replaceAll("\\s+", " ");
    }

    private static String between(String text, String from, String to) {
        int start = text.indexOf(from);
        int end = start < 0 ? -1 : text.indexOf(to, start);
        return end < 0 ? "" : text.substring(start, end);
    }

    /** What is said behind the call's own head. */
    private static String promise(String document, int i) {
        Pattern head = Pattern.compile("## Promise " + i + ": [^`]*`[^`]*`: (.*?)(?= ## )");
        Matcher m = head.matcher(document);
        return m.find() ? m.group(1) : "";
    }

    private static final class Part {
        private final String name;
        private final String text;
        private final boolean[] held;

        Part(String name, String text) {
            this.name = name;
            this.text = text;
            held = new boolean[text.length()];
            if (text.isEmpty()) {
                fail(name + " is not in the document");
            }
        }

        private static void fail(String what) {
            wrong++;
            System.out.println(what);
        }

        void mark(String words) {
            int at = text.indexOf(words);
            if (at < 0) {
                fail(name + " does not say '" + words + "'");
            }
            for (; at >= 0; at = text.indexOf(words, at + 1)) {
                for (int i = at; i < at + words.length(); i++) {
                    held[i] = true;
                }
            }
        }

        void tellUnheld() {
            Matcher word = Pattern.compile("[\\w-]+").matcher(text);
            while (word.find()) {
                if (!held[word.start()] && !word.group().matches("-+")) {
                    int from = Math.max(0, word.start() - 20);
                    fail(name + ": '" + word.group() + "' in '.. "
                        + text.substring(from, Math.min(text.length(), word.end() + 20)) + " ..'");
                }
            }
        }
    }
}
