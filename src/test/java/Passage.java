/** A stretch of the document, and how much of it the tests quote. */
final class Passage {
    private final String text;
    private final boolean[] quoted;

    Passage(String text) {
        this.text = text;
        this.quoted = new boolean[text.length()];
    }

    void quote(String sentence) {
        for (int at = text.indexOf(sentence); at >= 0; at = text.indexOf(sentence, at + 1)) {
            java.util.Arrays.fill(quoted, at, at + sentence.length(), true);
        }
    }

    /** What no test quotes; signs between words need none. */
    String rest() {
        StringBuilder rest = new StringBuilder();
        for (int at = 0; at < quoted.length; at++) {
            boolean open = !quoted[at] && Character.isLetterOrDigit(text.charAt(at));
            rest.append(open ? text.charAt(at) : ' ');
        }
        return rest.toString().replaceAll("\\s+", " ").strip();
    }
}
