import java.util.ArrayList;
import java.util.List;

/** Tests of single sentences: each names its promise and quotes the words of the document that it tests. */
final class Edges {
    private final Document document = new Document();
    private final boolean[] tested = new boolean[Document.PROMISES + 1];
    private final List<String> faults = new ArrayList<>();
    private String sentence = "";
    private int sentences = 0;
    private int answers = 0;

    /** Begins the test of a sentence, on a new object. */
    Run on(int promise, String quote) {
        sentences++;
        tested[promise] = true;
        sentence = "promise " + promise + ", \"" + quote + "\"";
        if (!document.has(promise, quote)) {
            fails("the document does not say that, or says it more than once");
        }
        return new Run(this);
    }

    void is(String call, int want, int got) {
        answers++;
        if (want != got) {
            fails(call + " answered " + Run.named(got) + ", due is " + Run.named(want));
        }
    }

    void fails(String what) {
        faults.add(sentence + ": " + what);
    }

    /** Ends all: no promise without a test, no word of the document that no test has quoted. */
    void end() {
        sentence = "the document";
        for (int p = 1; p <= Document.PROMISES; p++) {
            if (!tested[p]) {
                fails("promise " + p + " has no test");
            }
        }
        for (String words : document.unquoted()) {
            fails("no test quotes: " + words);
        }
        for (String fault : faults) {
            System.out.println("EdgesTest: " + fault);
        }
        System.out.println("EdgesTest: " + sentences + " tests of sentences, " + answers + " answers, " + faults.size() + " wrong");
        if (!faults.isEmpty()) {
            System.exit(1);
        }
    }
}
