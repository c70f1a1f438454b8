import java.io.IOException;
import java.nio.file.Files;
import java.nio.file.Path;

/**
 * Tests by sentences of the document: each begins with says(), which quotes the sentence that it holds; a wrong answer
 * is printed with it. A quote must stand in the document, and all that its terms and promises say must be quoted.
 */
final class Edge {
    private static final int NONE = IllLight.NONE;

    /** The document with single blanks, or null where it is not at hand. */
    private final String document;
    private final boolean[] quoted;
    private String sentence = "";
    private int sentences;
    private int asked;
    private int wrong;

    Edge(Path path) throws IOException {
        document = Files.exists(path) ? withSingleBlanks(Files.readString(path)) : null;
        quoted = new boolean[document == null ? 0 : document.length()];
    }

    private static String withSingleBlanks(String text) {
        return text.replace("```text", " ").replace("```", " ").replaceAll("\\s+", " ");
    }

    void says(String quote) {
        sentence = quote;
        sentences++;
        if (document == null) {
            return;
        }
        int at = document.indexOf(quote);
        if (at < 0) {
            report("this does not stand in the document");
        }
        for (; at >= 0; at = document.indexOf(quote, at + 1)) {
            java.util.Arrays.fill(quoted, at, at + quote.length(), true);
        }
    }

    private void report(String what) {
        wrong++;
        if (wrong <= 50) {
            System.out.println("\"" + sentence + "\": " + what);
        }
    }

    void due(String call, long got, long want) {
        asked++;
        if (got != want) {
            report(call + " answered " + got + ", due is " + want);
        }
    }

    void due(String call, boolean got, boolean want) {
        due(call, got ? 1 : 0, want ? 1 : 0);
    }

    void due(String call, String got, String want) {
        asked++;
        if (!got.equals(want)) {
            report(call + " is " + got + ", due is " + want);
        }
    }

    /** A further text of a sort on a new object: taken if the fault is 0, else refused with that fault at that place. */
    void fault(int sort, String text, int fault, int place) {
        IllLight x = new IllLight();
        String shown = text.replace("\n", "\\n");
        due("text " + sort + " '" + shown + "'", Check.tell(x, sort, NONE, text), fault == 0 ? 0 : NONE);
        due("FAULT of '" + shown + "'", x.fault(0), fault);
        due("place in '" + shown + "'", x.fault(1), place);
        due("count behind '" + shown + "'", x.count(sort), fault == 0 ? 1 : 0);
    }

    void taken(int sort, String text) {
        fault(sort, text, 0, NONE);
    }

    /** What no test quotes, from the terms on up to what is not promised, but for headings and the calls' faces. */
    private void findUnquoted() {
        int from = document.indexOf("## Terms") + "## Terms".length();
        int to = document.indexOf("## Not promised");
        StringBuilder left = new StringBuilder();
        for (int at = from; at < to; at++) {
            left.append(quoted[at] ? '\u0001' : document.charAt(at));
        }
        String rest = left.toString().replaceAll("## Promise \\d+: [\\w ]+ `[^`]*`:", "\u0001");
        for (String passage : rest.split("\u0001+")) {
            if (passage.matches(".*[A-Za-z0-9].*") && !passage.matches("[ .;:(]*([1-5]\\. *)?(and)?[ .;:(]*")) {
                sentence = passage.trim();
                report("no test quotes this");
            }
        }
    }

    void close() {
        if (document != null) {
            findUnquoted();
        } else {
            System.out.println("the document is not at hand: its sentences are not looked up");
        }
        System.out.println(wrong == 0 ? asked + " answers by " + sentences + " sentences are as due" : wrong + " are not as due");
        if (wrong != 0) {
            System.exit(1);
        }
    }
}
