import java.io.IOException;
import java.nio.charset.StandardCharsets;
import java.nio.file.Files;
import java.nio.file.Path;
import java.util.TreeSet;
import java.util.regex.Matcher;
import java.util.regex.Pattern;

/**
 * Answers held against one sentence of the document after another. A sentence is looked up in the document, so that
 * none is tested that does not stand there, and every wrong answer is told with its promise and its sentence.
 */
final class Edge {
    static final int LEAST = Integer.MIN_VALUE, MOST = Integer.MAX_VALUE;

    private static final Path DOCUMENT = Path.of("../shared/DOC.md");
    private static final int PROMISES = 29;

    private final Check check = new Check();
    private final String document;
    private final boolean[] quoted;
    private final TreeSet<Integer> promises = new TreeSet<>();
    private String about = "";

    Edge() throws IOException {
        document = Files.readString(DOCUMENT, StandardCharsets.UTF_8).replaceAll("\\s+", " ");
        quoted = new boolean[document.length()];
    }

    /** The numbers straight beside those that are taken, and the least and the greatest int. */
    static int[] beyond(int least, int most) {
        return new int[] {LEAST, least - 1, most + 1, MOST};
    }

    /** From here on answers are due by these words: of the promise itself, or of the Terms, or of what it is. */
    void sentence(int promise, String words) {
        promises.add(promise);
        about = "promise " + promise + ", \"" + words + "\": ";
        int from = document.indexOf("## Promise " + promise + ":");
        int to = document.indexOf("## ", from + 3);
        boolean found = quote(words, from, to) || quote(words, 0, document.indexOf("## Promise 1:"));
        check.holds(about + "these words stand in the document", found);
    }

    private boolean quote(String words, int from, int to) {
        int first = document.indexOf(words, from);
        for (int at = first; at >= 0 && at + words.length() <= to; at = document.indexOf(words, at + 1)) {
            for (int i = at; i < at + words.length(); i++) {
                quoted[i] = true;
            }
        }
        return first >= 0 && first + words.length() <= to;
    }

    void due(String call, long got, long want) {
        check.due(about + call, got, want);
    }

    void holds(String what, boolean so) {
        check.holds(about + what, so);
    }

    /** Each promise was named, and each number and each refusal of the document stands in a sentence that was. */
    void endOfAll() {
        for (int promise = 1; promise <= PROMISES; promise++) {
            check.holds("promise " + promise + " has a sentence that is tested", promises.contains(promise));
        }
        int from = document.indexOf("## Terms");
        int to = document.indexOf("## Not promised");
        String text = withoutHeads(document).substring(from, to);
        Matcher edge = Pattern.compile("\\d+|\\b(NONE|UNKNOWN|OUTSIDE|STATE|FULL|NO|LOST)\\b").matcher(text);
        while (edge.find()) {
            int at = from + edge.start();
            check.holds("tested: .." + document.substring(at - 30, at + 30) + "..", quoted[at]);
        }
        end();
    }

    /** Numbers of headings are no edges: blanks stand in their place. */
    private static String withoutHeads(String text) {
        Pattern head = Pattern.compile("## Promise \\d+|={8} \\d|---- \\d");
        return head.matcher(text).replaceAll(found -> " ".repeat(found.group().length()));
    }

    void end() {
        check.end();
    }
}
