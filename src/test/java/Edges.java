import java.util.ArrayList;
import java.util.List;
import java.util.regex.Matcher;
import java.util.regex.Pattern;

/**
 * Tests of single sentences: each says the promise's number (or TERMS) and quotes the sentence of the document.
 * In the end every word of the Terms and of each promise must have been quoted.
 */
final class Edges {
    static final int TERMS = 0;
    private static final int PROMISES = 32;

    private final Due due = new Due();
    private final String document;
    private final List<Passage> passages = new ArrayList<>();

    Edges(String document) {
        this.document = document.replaceAll("\\s+", " ");
        passages.add(new Passage(terms(document)));
        for (int promise = 1; promise <= PROMISES; promise++) {
            passages.add(new Passage(promise(document, promise)));
        }
    }

    /** Without its headings and the marks of its stretches. */
    private static String terms(String document) {
        String text = between(document, "\n## Terms\n", "\n## Promise 1:");
        return text.replace("DOORS AND HEADS\n", "").replaceAll("==== \\d\\. [A-Z ]+\n", "").replaceAll("```(text)?", "")
                .replaceAll("\\s+", " ");
    }

    /** Without its heading and the method's line, which LanguageTest looks at. */
    private static String promise(String document, int promise) {
        String end = promise < PROMISES ? "\n## Promise " + (promise + 1) + ":" : "\n## Not promised";
        String text = between(document, "\n## Promise " + promise + ":", end);
        Matcher method = Pattern.compile("`[^`]*\\)`:").matcher(text);
        return (method.find() ? text.substring(method.end()) : text).replaceAll("\\s+", " ");
    }

    private static String between(String text, String first, String next) {
        int from = text.indexOf(first);
        int to = text.indexOf(next);
        if (from < 0 || to < from) {
            throw new IllegalArgumentException("the document has no " + first.strip() + " ahead of " + next.strip());
        }
        return text.substring(from + first.length(), to);
    }

    /** The script is written as Script tells. */
    void edge(int promise, String sentence, String script) {
        due.part((promise == TERMS ? "Terms" : "promise " + promise) + ", \"" + sentence + "\"");
        due.yes("the document says so", document.contains(sentence));
        passages.get(TERMS).quote(sentence);
        passages.get(promise).quote(sentence);
        Script.play(due, script);
    }

    void end() {
        for (int promise = TERMS; promise <= PROMISES; promise++) {
            due.part(promise == TERMS ? "Terms" : "promise " + promise);
            String rest = passages.get(promise).rest();
            due.yes("without a test: " + rest, rest.isEmpty());
        }
        due.end();
    }
}
