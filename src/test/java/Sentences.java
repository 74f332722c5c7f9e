import java.io.IOException;
import java.io.UncheckedIOException;
import java.nio.file.Files;
import java.nio.file.Path;
import java.util.ArrayList;
import java.util.List;

/**
 * Tests of single sentences of the document. Each names its promise and quotes its sentence,
 * which has to stand there word for word; a sentence that tells of an exception, or of the
 * numbers that an argument may be, needs a call on each side of its boundary. In the end each
 * line of a promise, and each sentence of the terms, needs a test or a word that there is
 * no boundary in it.
 */
final class Sentences {
    /** Stands for the parts of the document before promise 1, which bind all promises. */
    static final int TERMS = 0;

    private static final int PROMISES = 29;
    private static final Path DOCUMENT = Path.of("../shared/DOC.md");
    private static final List<String> PARTS = partsOfDocument();
    private static final List<List<String>> QUOTES = new ArrayList<>();

    static {
        for (int promise = TERMS; promise <= PROMISES; promise++) {
            QUOTES.add(new ArrayList<>());
        }
    }

    private Sentences() {
    }

    /** Holds the class against a sentence: runs a text of calls on a new object. */
    static void holds(int promise, String sentence, String text) {
        String title = quote(promise, sentence);
        TradeLogs object = Script.run(title, text);
        compareWithTwin(title, object, Script.runChanges(text));
        if (sentence.startsWith("Throws `")) {
            String exception = sentence.substring(8, sentence.indexOf('`', 8));
            lookAtBothSides(title, nameOf(promise), exception, text);
        } else if (sentence.matches("`\\w+`: .*(\\d to \\d|number of an? ).*")) {
            lookAtBothSides(title, nameOf(promise), "", text);
        }
    }

    /**
     * Holds the class against a sentence that says "Undoable": a call and undo leave the same
     * behind as a run without commands, which saves a state and changes nothing, and undo. The
     * text before it saves four states or more, and the last of them is no empty change.
     */
    static void undoable(int promise, String sentence, String text, String call) {
        String title = quote(promise, sentence);
        TradeLogs object = Script.run(title, text + call + "\nundo() = 3\n");
        TradeLogs twin = Script.run(title, text + "runCommands() = 0\nundo() = 3\n");
        compareWithTwin(title + ", " + call, object, twin);
    }

    /** Says that a sentence names no boundary, and so needs no test of one. */
    static void namesNoBoundary(int promise, String sentence) {
        quote(promise, sentence);
    }

    /** Quotes a sentence for a test that is written out in Java; answers the test's title. */
    static String quote(int promise, String sentence) {
        String title = (promise == TERMS ? "Terms" : "Promise " + promise) + ", \"" + sentence + "\"";
        Script.check(title + " stands in the document",
                PARTS.get(promise).contains(sentence), true);
        QUOTES.get(promise).add(sentence);
        return title;
    }

    /** Looks whether all sentences of some promises have been quoted. */
    static void allQuoted(int first, int last) {
        for (int promise = first; promise <= last; promise++) {
            List<String> quotes = QUOTES.get(promise);
            for (String sentence : sentencesOf(promise)) {
                boolean quoted = quotes.stream().anyMatch(sentence::contains);
                Script.check("Promise " + promise + ", a test of \"" + sentence + "\"", quoted, true);
            }
        }
    }

    /**
     * The twin did not see the calls that threw or only asked: if these changed nothing, both
     * tell the same, now and after each undo (a state that was saved too much shows there).
     */
    private static void compareWithTwin(String title, TradeLogs object, TradeLogs twin) {
        String left = "";
        while (!left.startsWith("throws.")) {
            Script.check(title + ": refused calls and questions changed nothing",
                    Script.digestOf(object), Script.digestOf(twin));
            left = Script.answer(object, "undo()");
            Script.check(title + ": refused calls and questions saved nothing",
                    left, Script.answer(twin, "undo()"));
        }
        Script.more(object, title, "");
    }

    private static void lookAtBothSides(String title, String method, String exception, String text) {
        boolean answers = false;
        boolean throwing = false;
        for (String line : text.split("\n")) {
            String call = Script.withoutComment(line);
            if (call.startsWith(method + "(")) {
                answers |= !call.contains(" throws ");
                throwing |= call.contains(" throws " + exception);
            }
        }
        Script.check(title + ": a call on each side", answers && throwing, true);
    }

    // ---- the document

    private static List<String> partsOfDocument() {
        try {
            String text = Files.readString(DOCUMENT).replaceAll("(?s)```.*?```", "");
            return List.of(text.split("\n## (?=Promise \\d+: |Not promised)"));
        } catch (IOException unreadable) {
            throw new UncheckedIOException(unreadable);
        }
    }

    private static String nameOf(int promise) {
        String part = PARTS.get(promise);
        return part.substring(part.indexOf(": ") + 2, part.indexOf('\n'));
    }

    /** The lines of a promise behind its heading; the sentences of the terms. */
    private static List<String> sentencesOf(int promise) {
        List<String> sentences = new ArrayList<>();
        String part = PARTS.get(promise);
        for (String line : part.substring(part.indexOf('\n')).split("\n")) {
            boolean heading = line.isBlank() || line.startsWith("#") || line.matches("[A-Z, ]+");
            if (!heading && promise == TERMS) {
                sentences.addAll(List.of(line.split("(?<=\\.|\\.\\))\\s+")));
            } else if (!heading) {
                sentences.add(line);
            }
        }
        return sentences;
    }
}
