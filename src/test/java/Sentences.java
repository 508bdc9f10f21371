import java.io.IOException;
import java.nio.file.Files;

/** The sentences of the document, each with the runs that would fail if it were broken. */
final class Sentences {
    private final Checks checks = new Checks("SentenceTest");
    private final Document document;
    private final boolean[] tested = new boolean[Document.PROMISES + 1];
    private String title = "";

    /** The tests stand without the document as well: then the quotes alone are not looked at. */
    Sentences() throws IOException {
        document = Files.exists(Document.PATH) ? new Document() : null;
        if (document == null) {
            System.out.println("SentenceTest: " + Document.PATH + " is missing: no quote is looked at");
        }
    }

    /** Begins the test of a sentence of a promise, or of a term that the promise uses. */
    Sentences of(int promise, String quote) {
        title = "promise " + promise + ", \"" + quote + "\": ";
        tested[promise] = true;
        if (document != null) {
            checks.due(title + "stands in the document", document.has(promise, quote) ? 1 : 0, 1);
        }
        return this;
    }

    /** Rows of calls and answers on a new object; a call that throws is the end of its run, not of the test. */
    Sentences run(String... rows) {
        try {
            Run run = new Run(checks, title);
            for (String some : rows) {
                run.play(some);
            }
        } catch (RuntimeException e) {
            checks.same(title + "the run ends with", e + ", by " + e.getCause(), "its last row");
        }
        return this;
    }

    void due(String call, long got, long want) {
        checks.due(title + call, got, want);
    }

    void finish() {
        for (int promise = 1; promise <= Document.PROMISES; promise++) {
            checks.due("promise " + promise + " has a test of a sentence", tested[promise] ? 1 : 0, 1);
        }
        if (document != null) {
            for (String words : document.unquoted()) {
                checks.due("promise or terms " + words + " has a test", 0, 1);
            }
        }
        checks.finish();
    }
}
