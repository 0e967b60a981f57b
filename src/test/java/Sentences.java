import java.util.LinkedHashSet;
import java.util.Set;

/**
 * Tests that each name a promise and a sentence of it: 'of' begins one, and what is compared behind it
 * belongs to it. The sentence is quoted from the document word for word.
 */
final class Sentences {
    private final Due due;
    private final Document document;
    private final Set<String> begun = new LinkedHashSet<>();
    private String name = "";
    private int compared;

    /** Without a document the quotes are not looked up. */
    Sentences(Due due, Document document) {
        this.due = due;
        this.document = document;
    }

    void of(String promise, String sentence) {
        close();
        name = promise + ", '" + sentence + "'";
        due.is("the test is told once: " + name, begun.add(name), true);
        if (document != null) {
            due.is("the document says: " + name, document.quote(promise, sentence), true);
        }
        compared = 0;
    }

    void is(String call, long got, long want) {
        compared++;
        due.is(name + ": " + call, got, want);
    }

    void is(String call, boolean got, boolean want) {
        compared++;
        due.is(name + ": " + call, got, want);
    }

    void real(String call, double got, double want) {
        compared++;
        due.real(name + ": " + call, got, want);
    }

    /** A call of the test that was begun last threw: the class never does. */
    void threw(RuntimeException e) {
        compared++;
        due.miss(name, e.toString(), "an answer");
    }

    /** The last test is over, too. */
    void close() {
        if (!name.isEmpty() && compared == 0) {
            due.miss(name, "no comparison", "one at least");
        }
    }

    int count() {
        return begun.size();
    }
}
