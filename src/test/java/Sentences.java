import java.io.IOException;
import java.nio.file.Files;
import java.nio.file.Path;
import java.util.ArrayList;
import java.util.LinkedHashSet;
import java.util.List;
import java.util.Set;

/** The document's sentences, and which of them the tests of boundary cases have spoken of. */
final class Sentences {
    private static final Path DOCUMENT = Path.of("../shared/DOC.md");

    /** Sentences about which there is nothing to test: they say no more than others, or leave something free. */
    private static final Set<String> PLAIN = Set.of(
        "Some of the items in a database are news.",
        "The constants:",
        "The constructor and the methods follow, a promise each: the signature, then what it does.",
        "How the state is held inside the object is free, as are the speed of each call, the text of toString and the"
            + " behaviour of equals and hashCode.",
        "Use of one object from several threads at once is not promised to be safe.");

    private record Sentence(int promise, String words) { }

    /** Each sentence, or part of one up to a semicolon. */
    private final Set<Sentence> sentences = new LinkedHashSet<>();
    private final List<Sentence> quotes = new ArrayList<>();

    Sentences() throws IOException {
        if (!Files.isReadable(DOCUMENT)) {
            return;
        }
        int promise = -1;
        for (String line : Files.readAllLines(DOCUMENT)) {
            if (line.startsWith("## ")) {
                promise = promiseOf(line);
            } else if (promise >= 0 && !isPlain(line)) {
                for (String words : plainWords(line).split("(?<=[.;])\\s+")) {
                    sentences.add(new Sentence(promise, words));
                }
            }
        }
        sentences.removeIf(sentence -> PLAIN.contains(sentence.words));
    }

    /** 0 for what stands outside of the promises, -1 for the face, which FaceTest looks at. */
    private static int promiseOf(String heading) {
        if (heading.startsWith("## Promise ")) {
            return Integer.parseInt(heading.substring("## Promise ".length(), heading.indexOf(':')));
        }
        return heading.equals("## The public face") ? -1 : 0;
    }

    private static String plainWords(String line) {
        return line.replace("`", "").replaceFirst("^- ", "").trim().replaceAll(" +", " ");
    }

    /** Headings inside of a promise, and signatures (FaceTest looks at these). */
    private static boolean isPlain(String line) {
        return line.isBlank() || line.startsWith("----") || line.startsWith("`");
    }

    void quote(int promise, String words) {
        quotes.add(new Sentence(promise, words));
    }

    /** Each quote is a part of just one sentence, and each sentence has one. */
    void checkQuotes(Check check) {
        if (sentences.isEmpty()) {
            System.out.println("no document to compare the quotes with: " + DOCUMENT);
            return;
        }
        Set<Sentence> silent = new LinkedHashSet<>(sentences);
        for (Sentence quote : quotes) {
            List<Sentence> found = sentences.stream()
                .filter(sentence -> sentence.promise == quote.promise && sentence.words.contains(quote.words)).toList();
            check.due("sentences with " + quote, found.size(), 1);
            found.forEach(silent::remove);
        }
        for (Sentence sentence : silent) {
            check.due("tests of " + sentence, 0, 1);
        }
    }
}
