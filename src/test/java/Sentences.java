import java.util.Arrays;

/** A part of the document: tests are named by quotes from it, and at the end all of it must have been quoted. */
final class Sentences {
    private final String name;
    private final String text;
    private final boolean[] said;

    Sentences(String name, String text) {
        this.name = name;
        this.text = text.replaceAll("\\s+", " ").strip();
        said = new boolean[this.text.length()];
    }

    /** A test's name, made of what the document says in these words. */
    String says(String quote) {
        int at = text.indexOf(quote);
        Probe.due(name + ", quoted: " + quote, at >= 0, true);
        for (; at >= 0; at = text.indexOf(quote, at + 1)) {
            Arrays.fill(said, at, at + quote.length(), true);
        }
        return name + ": " + quote;
    }

    void allSaid() {
        StringBuilder left = new StringBuilder();
        for (int at = 0; at < said.length; at++) {
            left.append(said[at] ? ' ' : text.charAt(at));
        }
        Probe.due(name + ", what no test quotes", left.toString().replaceAll(" +", " ").strip(), "");
    }
}
