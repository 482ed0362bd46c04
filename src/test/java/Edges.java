import java.util.Set;
import java.util.TreeSet;

/** Tests of boundary cases: each says the promise's number and the sentence of the document that names the case. */
final class Edges {
    private final Due due = new Due();
    private final Set<Integer> promises = new TreeSet<>();
    private final String document;

    Edges(String document) {
        this.document = document.replaceAll("\\s+", " ");
    }

    /** The script is written as Script tells. */
    void edge(int promise, String sentence, String script) {
        promises.add(promise);
        due.part("promise " + promise + ", \"" + sentence + "\"");
        due.yes("the document says so", document.contains(sentence));
        Script.play(due, script);
    }

    void end() {
        due.part("edges");
        for (int promise = 1; promise <= 32; promise++) {
            due.yes("promise " + promise + " has a test", promises.contains(promise));
        }
        due.end();
    }
}
