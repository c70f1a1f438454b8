import java.io.IOException;
import java.nio.file.Files;
import java.nio.file.Path;
import java.util.Arrays;
import java.util.Map;
import java.util.Set;
import java.util.TreeMap;
import java.util.TreeSet;
import java.util.function.Supplier;

/**
 * Tests by sentences of the document: each begins with says(), which quotes the sentence that it holds; a wrong answer
 * is printed with it. A quote must stand in the document, and all that its terms and promises say must be quoted.
 */
final class Edge {
    static final int[] FAR = {Integer.MIN_VALUE, Integer.MIN_VALUE + 1, -1000000, -512, -256, 200, 255, 256, 512, 1000000,
        Integer.MAX_VALUE - 100, Integer.MAX_VALUE - 1, Integer.MAX_VALUE};

    private static final int NONE = IllLight.NONE;

    /** The document with single blanks, or null where it is not at hand. */
    private final String document;
    private final boolean[] quoted;
    private String sentence = "";
    private int sentences;
    private int asked;
    private int wrong;

    Edge(Path path) throws IOException {
        document = Files.exists(path) ? withSingleBlanks(Files.readString(path)) : null;
        quoted = new boolean[document == null ? 0 : document.length()];
    }

    private static String withSingleBlanks(String text) {
        return text.replace("```text", " ").replace("```", " ").replaceAll("\\s+", " ");
    }

    /** A test of what the document says ahead of its promises: its terms, above all. */
    void says(String quote) {
        quote(quote, "", "## Promise 1:");
    }

    /** A test of what a promise says: many say some of it in the same words. */
    void promise(int number, String quote) {
        quote(quote, "## Promise " + number + ":", number < 31 ? "## Promise " + (number + 1) + ":" : "## Not promised");
    }

    private void quote(String quote, String from, String to) {
        sentence = quote;
        sentences++;
        if (document == null) {
            return;
        }
        int end = document.indexOf(to);
        int at = document.indexOf(quote, document.indexOf(from));
        if (at < 0 || at + quote.length() > end) {
            report("this does not stand there in the document");
            return;
        }
        Arrays.fill(quoted, at, at + quote.length(), true);
    }

    private void report(String what) {
        wrong++;
        if (wrong <= 50) {
            System.out.println("\"" + sentence + "\": " + what);
        }
    }

    void due(String call, long got, long want) {
        asked++;
        if (got != want) {
            report(call + " answered " + got + ", due is " + want);
        }
    }

    void due(String call, boolean got, boolean want) {
        due(call, got ? 1 : 0, want ? 1 : 0);
    }

    void due(String call, String got, String want) {
        asked++;
        if (!got.equals(want)) {
            report(call + " is " + got + ", due is " + want);
        }
    }

    /** A further text of a sort on a new object: taken if the fault is 0, else refused with that fault at that place. */
    void fault(int sort, String text, int fault, int place) {
        IllLight x = new IllLight();
        String shown = text.replace("\n", "\\n");
        due("text " + sort + " '" + shown + "'", Check.tell(x, sort, NONE, text), fault == 0 ? 0 : NONE);
        due("FAULT of '" + shown + "'", x.fault(0), fault);
        due("place in '" + shown + "'", x.fault(1), place);
        due("count behind '" + shown + "'", x.count(sort), fault == 0 ? 1 : 0);
    }

    void taken(int sort, String text) {
        fault(sort, text, 0, NONE);
    }

    /** What an object answers to a number. */
    interface Answer {
        long by(IllLight x, int n);
    }

    /** Numbers and the answers that are due, one behind the other. */
    static Map<Integer, Integer> pairs(int... numbers) {
        Map<Integer, Integer> all = new TreeMap<>();
        for (int k = 0; k < numbers.length; k += 2) {
            all.put(numbers[k], numbers[k + 1]);
        }
        return all;
    }

    static Set<Integer> row(int from, int to) {
        Set<Integer> all = new TreeSet<>();
        for (int n = from; n <= to; n++) {
            all.add(n);
        }
        return all;
    }

    void each(Map<Integer, Integer> dues, Supplier<IllLight> made, Answer answer) {
        IllLight x = made.get();
        for (Map.Entry<Integer, Integer> one : dues.entrySet()) {
            due("by " + one.getKey(), answer.by(x, one.getKey()), one.getValue());
        }
    }

    /** Every number but some, near and far, has the same answer; no object is asked more often than it is made for. */
    void others(String what, Set<Integer> but, int due, Supplier<IllLight> made, Answer answer) {
        IllLight x = made.get();
        for (int n = -200; n < 200; n++) {
            if (!but.contains(n)) {
                due("another " + what + ", " + n, answer.by(x, n), due);
            }
        }
        for (int n : FAR) {
            due("another " + what + ", " + n, answer.by(x, n), due);
        }
    }

    /** What no test quotes, from the terms on up to what is not promised, but for headings and the calls' faces. */
    private void findUnquoted() {
        int from = document.indexOf("## Terms") + "## Terms".length();
        int to = document.indexOf("## Not promised");
        StringBuilder left = new StringBuilder();
        for (int at = from; at < to; at++) {
            left.append(quoted[at] ? '\u0001' : document.charAt(at));
        }
        String rest = left.toString().replaceAll("## Promise \\d+: [\\w ]+ `[^`]*`:", "\u0001");
        for (String passage : rest.split("\u0001+")) {
            if (passage.matches(".*[A-Za-z0-9].*") && !passage.matches("[ .;:(]*([1-5]\\. *)?(and)?[ .;:(]*")) {
                sentence = passage.trim();
                report("no test quotes this");
            }
        }
    }

    void close() {
        if (document != null) {
            findUnquoted();
        } else {
            System.out.println("the document is not at hand: its sentences are not looked up");
        }
        System.out.println(wrong == 0 ? asked + " answers by " + sentences + " sentences are as due" : wrong + " are not as due");
        if (wrong != 0) {
            System.exit(1);
        }
    }
}
