import java.io.IOException;
import java.nio.file.Files;
import java.nio.file.Path;

/**
 * Counts answers sentence by sentence of a part of the document: each sentence is quoted ahead of the answers that it
 * wants, stands in the document word for word, has an answer at least, and none of the part stays unquoted.
 */
final class Sentences extends Checks {
    private static final Path DOCUMENT = Path.of("../shared/DOC.md");

    private final String text;
    private final boolean[] quoted;
    private String latest = "";
    private int askedThen;
    private int from;
    private int to;

    Sentences(String first, String behindLast) {
        text = part(first, behindLast);
        quoted = new boolean[text.length()];
        to = text.length();
    }

    private static String part(String first, String behindLast) {
        try {
            String all = Files.readString(DOCUMENT).replace("```text", "").replace("```", "").replaceAll("\\s+", " ");
            int start = all.indexOf(first);
            int end = all.indexOf(behindLast, start);
            return all.substring(start, end);
        } catch (IOException e) {
            throw new IllegalStateException("../shared/DOC.md can't be read", e);
        }
    }

    /** The sentences that follow stand under this promise; its heading and its face want no answer here. */
    void promise(int n) {
        String heading = "## Promise " + n + ":";
        from = text.indexOf(heading);
        due("'" + heading + "' is there", from >= 0, true);
        from = Math.max(from, 0);
        int end = text.indexOf("## Promise ", from + heading.length());
        to = end < 0 ? text.length() : end;
        int face = text.indexOf("`: ", from);
        mark(from, face < 0 || face > to ? from : face);
    }

    /** The sentence that the answers which follow are due by. */
    void says(String sentence) {
        endSentence();
        latest = sentence;
        int at = unquoted(sentence);
        if (at < 0) {
            due("the document says '" + sentence + "' once more", false, true);
        } else {
            mark(at, at + sentence.length());
        }
        askedThen = asked();
    }

    private int unquoted(String sentence) {
        int at = text.indexOf(sentence, from);
        while (at >= 0 && at + sentence.length() <= to && quoted[at]) {
            at = text.indexOf(sentence, at + 1);
        }
        return at >= 0 && at + sentence.length() <= to ? at : -1;
    }

    private void mark(int start, int end) {
        for (int i = start; i < end; i++) {
            quoted[i] = true;
        }
    }

    private void endSentence() {
        if (!latest.isEmpty() && asked() == askedThen) {
            due("an answer is tested for '" + latest + "'", false, true);
        }
    }

    @Override
    void due(String what, long got, long want) {
        super.due("by '" + latest + "': " + what, got, want);
    }

    @Override
    void finish() {
        endSentence();
        StringBuilder left = new StringBuilder();
        for (int i = 0; i < text.length(); i++) {
            left.append(quoted[i] ? '\n' : text.charAt(i));
        }
        for (String rest : left.toString().split("\n+")) {
            due("nothing of the document is left untested: '" + rest + "'", rest.matches(".*[A-Za-z0-9].*"), false);
        }
        super.finish();
    }
}
