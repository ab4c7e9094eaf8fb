import java.io.IOException;
import java.io.UncheckedIOException;
import java.nio.file.Files;
import java.nio.file.Path;
import java.util.ArrayList;
import java.util.List;
import java.util.regex.Matcher;
import java.util.regex.Pattern;

/** The document's words, cut into its terms and its promises; it remembers which of them a test has quoted. */
final class Document {
    static final int PROMISES = 46;
    private static final Path FILE = Path.of("../shared/DOC.md");

    /** A stretch of the document, with a mark at each sign that was quoted. */
    private static final class Part {
        final String name;
        final String words;
        final boolean[] quoted;

        Part(String name, String words) {
            this.name = name;
            this.words = words;
            this.quoted = new boolean[words.length()];
        }

        /** How often a quote stands in it. */
        int times(String quote) {
            int times = 0;
            for (int at = words.indexOf(quote); at >= 0; at = words.indexOf(quote, at + 1)) {
                times++;
            }
            return times;
        }

        void mark(String quote) {
            int at = words.indexOf(quote);
            for (int i = at; i < at + quote.length(); i++) {
                quoted[i] = true;
            }
        }

        /** The words that no test has quoted, one stretch behind the other. */
        List<String> unquoted() {
            StringBuilder left = new StringBuilder();
            for (int i = 0; i < quoted.length; i++) {
                left.append(quoted[i] ? '\n' : words.charAt(i));
            }
            List<String> all = new ArrayList<>();
            for (String stretch : left.toString().split("\n+")) {
                if (stretch.matches(".*\\w.*")) {
                    all.add(name + ": " + stretch.trim());
                }
            }
            return all;
        }
    }

    private final Part terms;
    private final Part[] promises = new Part[PROMISES + 1];

    Document() {
        String text;
        try {
            text = Files.readString(FILE);
        } catch (IOException e) {
            throw new UncheckedIOException(e);
        }
        // Which heading of the interface stands ahead of which calls bounds nothing.
        text = text.replaceAll("(?m)^Ahead of the calls .*$", "");
        String use = "An object is used " + between(text, "An object is used ", "## The public face");
        terms = new Part("terms", plain(use + between(text, "## Terms", "## Promise 1:")));
        for (int p = 1; p <= PROMISES; p++) {
            String end = p == PROMISES ? "## Not promised" : "## Promise " + (p + 1) + ":";
            String section = between(text, "## Promise " + p + ":", end);
            // The heading and the call's own line say nothing that the face does not.
            promises[p] = new Part("promise " + p, plain(section.replaceFirst("(?s)^.*?`: ", "")));
        }
    }

    private static String between(String text, String from, String to) {
        int start = text.indexOf(from);
        int end = text.indexOf(to, start + from.length());
        if (start < 0 || end < 0) {
            throw new IllegalStateException("the document has no '" + from + "' ahead of '" + to + "'");
        }
        return text.substring(start + from.length(), end);
    }

    /** On one line, without the marks that only lay the text out. */
    private static String plain(String text) {
        Matcher marks = Pattern.compile("```(text)?|======== \\d").matcher(text);
        return marks.replaceAll(" ").replaceAll("\\s+", " ").trim();
    }

    /** Whether a quote stands just once in that promise, or else just once in the terms. */
    boolean has(int promise, String quote) {
        for (Part part : new Part[] {promises[promise], terms}) {
            if (part.times(quote) == 1) {
                part.mark(quote);
                return true;
            }
            if (part.times(quote) > 1) {
                return false;
            }
        }
        return false;
    }

    List<String> unquoted() {
        List<String> all = terms.unquoted();
        for (int p = 1; p <= PROMISES; p++) {
            all.addAll(promises[p].unquoted());
        }
        return all;
    }
}
