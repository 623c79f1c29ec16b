import java.io.IOException;
import java.nio.file.Files;
import java.nio.file.Path;
import java.util.ArrayList;
import java.util.List;

/**
 * The promise and the sentence of the document that the checks behind it are about. At the end each
 * sentence must have been named, and checked.
 */
final class Edge {

    private static final Path DOCUMENT = Path.of("../shared/DOC.md");
    private static final int PROMISES = 39;

    private static final List<String> DONE = new ArrayList<>();
    private static int promiseNow = -1;
    private static String sentenceNow = "";
    private static int checksAhead = 0;

    private Edge() {
    }

    /** A sentence of a promise. */
    static void of(int promise, String sentence) {
        closeSentence();
        promiseNow = promise;
        sentenceNow = sentence;
        checksAhead = Check.made();
        Check.about("promise " + promise + ", '" + sentence + "': ");
    }

    /** A sentence of the parts ahead of the promises: 'What it is' and 'Terms'. */
    static void ofTerms(String sentence) {
        of(0, sentence);
    }

    /** Looks for each sentence of the document among those that were named, and the other way. */
    static void dueAll() {
        closeSentence();
        Check.about("");
        if (!hasDocument()) {
            System.out.println("the sentences were not compared, as there is no " + DOCUMENT);
            return;
        }
        int named = 0;
        for (int promise = 0; promise <= PROMISES; promise++) {
            List<String> sentences = sentences(promise);
            for (String sentence : sentences) {
                Check.dueTrue("a test of promise " + promise + ", '" + sentence + "'",
                        DONE.stream().anyMatch(partOf(promise, sentence)));
            }
            for (String done : DONE) {
                if (done.startsWith(promise + " ")) {
                    named++;
                    Check.dueTrue("the document has " + done, sentences.stream()
                            .anyMatch(sentence -> partOf(done, sentence)));
                }
            }
        }
        Check.due("sentences with a promise of the document", named, DONE.size());
    }

    private static java.util.function.Predicate<String> partOf(int promise, String sentence) {
        return done -> done.startsWith(promise + " ") && partOf(done, sentence);
    }

    private static boolean partOf(String done, String sentence) {
        return sentence.contains(done.substring(done.indexOf(' ') + 1));
    }

    private static void closeSentence() {
        if (promiseNow >= 0) {
            Check.dueTrue("something is checked", Check.made() > checksAhead);
            DONE.add(promiseNow + " " + sentenceNow);
        }
    }

    /** Each line of a promise's part; of the parts ahead of them each sentence that rules something. */
    private static List<String> sentences(int promise) {
        List<String> found = new ArrayList<>();
        String part = "";
        for (String line : document()) {
            if (line.startsWith("## ")) {
                part = line;
            } else if (promise > 0 && part.startsWith("## Promise " + promise + ":") && !line.isEmpty()) {
                found.add(line);
            } else if (promise == 0 && (part.equals("## Terms") || part.equals("## What it is"))) {
                for (String sentence : line.split("(?<=[.]) ")) {
                    if (rules(sentence)) {
                        found.add(sentence);
                    }
                }
            }
        }
        return found;
    }

    /** Headings, and what the interface says ahead of its calls, rule nothing. */
    private static boolean rules(String sentence) {
        return sentence.endsWith(".") && !sentence.startsWith("Ahead of the calls");
    }

    static boolean hasDocument() {
        return Files.exists(DOCUMENT);
    }

    static List<String> document() {
        try {
            return Files.readAllLines(DOCUMENT);
        } catch (IOException e) {
            throw new IllegalStateException(e);
        }
    }
}
