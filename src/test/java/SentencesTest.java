import java.io.IOException;
import java.nio.file.Files;
import java.nio.file.Path;
import java.util.List;
import java.util.function.Consumer;

/**
 * One test for each sentence of the document that names a boundary case, with the promise's name and the
 * sentence's words. It is run where .ci/run runs it, in the project's directory, and finds the document
 * there: words that the document does not have, and words of it that no test has, are told.
 */
public final class SentencesTest {
    private static final List<Consumer<Sentences>> GROUPS = List.of(RegisterSentences::test, ThingSentences::test,
        NumberStepSentences::test, ThingStepSentences::test, RowStepSentences::test, FaultSentences::test,
        HandlerSentences::test, CallSentences::test, AnswerSentences::test);
    private static final Path DOCUMENT = Path.of("..", "shared", "DOC.md");

    /** What has no boundary: what things are called, and how the document is to be read. */
    private static final String[][] NO_BOUNDARY = {
        {"What it is", "A loom: a small machine with words, longs, singles, doubles and things that may be missing."},
        {"What it is", "what later calls answer is free."},
        {"Terms", "THINGS have kinds. ROWS:"},
        {"Terms", "The TURN of one of the OPS by a word x:"},
        {"Terms", "each an operation (op) with a, b, c"},
        {"Terms", "x := y: x becomes y."},
        {"Terms", "---- FAILURES."},
        {"Terms", "Of several:"},
        {"Promise 15", "Of the thing Tr:"}
    };

    public static void main(String[] args) throws IOException {
        Due due = new Due();
        Document document = Files.isReadable(DOCUMENT) ? Document.read(DOCUMENT) : null;
        Sentences s = new Sentences(due, document);
        for (Consumer<Sentences> group : GROUPS) {
            try {
                group.accept(s);
            } catch (RuntimeException e) {
                s.threw(e);
            }
        }
        s.close();
        if (document == null) {
            System.out.println("there is no " + DOCUMENT + ": the sentences were not looked up in it");
        } else {
            allIsQuoted(due, document);
        }
        System.out.println(s.count() + " sentences have a test");
        due.end();
    }

    private static void allIsQuoted(Due due, Document document) {
        for (String[] words : NO_BOUNDARY) {
            due.is("the document says: " + words[0] + ", '" + words[1] + "'", document.quote(words[0], words[1]), true);
        }
        for (String heading : new String[] {"What it is", "Terms", "Promise"}) {
            for (String piece : document.unquoted(heading)) {
                due.miss(piece, "no test", "one, or a place in NO_BOUNDARY");
            }
        }
    }
}
