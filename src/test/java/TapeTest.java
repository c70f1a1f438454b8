import java.util.ArrayList;
import java.util.List;
import java.util.Random;

/** Calls of feed, end, text, fault, count, image and again in drawn orders, against a plain record of what is told. */
public final class TapeTest {
    private static final int NONE = IllLight.NONE;
    private static final int ROUNDS = 400;
    private static final int CALLS = 100;
    private static final String[][] PIECES = {{"limit 3;", "limit 5;", " ", "rock 1 2;"}, {"hour;", "throw 1;", "\n"},
        {"man 6;", "lit 3;", "limit 6;"}, {"limit 0;", "limit 7", "go 0 4;", "plain 2;", "lamp 7 7;", "?"}};
    private static final Check check = new Check();

    /** What an image keeps: the texts by sort and place, the tape, the fault. */
    private record Kept(List<List<String>> texts, String tape, int fault, int place) {
    }

    private final Random random;
    private final IllLight x = new IllLight();
    private final Kept[] images = new Kept[3];
    private final List<List<String>> texts = new ArrayList<>(List.of(List.of(), List.of(), List.of()));
    private String tape = "";
    private int fault;
    private int place = NONE;
    /** The sort whose lines are mostly fed, so that many texts are without a fault. */
    private int likely;

    private TapeTest(int seed) {
        random = new Random(seed);
    }

    public static void main(String[] args) {
        for (int seed = 0; seed < ROUNDS; seed++) {
            TapeTest test = new TapeTest(seed);
            for (int k = 0; k < CALLS; k++) {
                test.call();
                test.look();
            }
        }
        check.close();
    }

    private int below(int n) {
        return random.nextInt(n);
    }

    private void call() {
        switch (below(8)) {
            case 0: case 1: feed(); break;
            case 2: case 3: end(below(4) == 0 ? below(700) - 40 : tape.stripTrailing().length()); break;
            case 4: case 5: text(below(4) > 0 ? likely : below(5) - 1, below(2) == 0 ? NONE : below(5) - 2); break;
            case 6: image(below(5) - 1); break;
            default: again(below(5) - 1);
        }
    }

    private void feed() {
        likely = tape.isEmpty() ? below(3) : likely;
        String[] pieces = PIECES[below(6) > 0 ? likely : below(4)];
        StringBuilder twenty = new StringBuilder();
        while (twenty.length() <= 11) {
            twenty.append(pieces[below(pieces.length)]);
        }
        twenty.append(" ".repeat(20 - twenty.length()));
        char[] signs = twenty.toString().toCharArray();
        int[] n = new int[5];
        for (int k = 0; k < 20; k++) {
            n[k / 4] = n[k / 4] << 8 | signs[k];
        }
        boolean fits = tape.length() + 20 <= 600;
        tape += fits ? new String(signs) : "";
        check.due("feed", x.feed(n[0], n[1], n[2], n[3], n[4]), fits ? tape.length() : NONE);
    }

    private void end(int n) {
        boolean can = n >= 0 && n <= tape.length();
        tape = can ? tape.substring(0, n) : tape;
        check.due("end " + n, x.end(n), can ? n : NONE);
    }

    private void text(int sort, int at) {
        String taken = tape;
        tape = "";
        fault = 0;
        place = NONE;
        int held = sort < 0 || sort > 2 ? NONE : texts.get(sort).size();
        int number = at == NONE ? held : at;
        if (held == NONE || number < 0 || number > held || number == held && at != NONE || number > 1) {
            check.due("text " + sort + " " + at, x.text(sort, at), -2);
            return;
        }
        Model model = new Model(sort, taken);
        fault = model.fault;
        place = model.place;
        check.due("text " + sort + " " + at + " '" + taken + "'", x.text(sort, at), fault == 0 ? number : NONE);
        if (fault == 0) {
            List<String> changed = new ArrayList<>(texts.get(sort));
            if (number < held) {
                changed.set(number, taken);
            } else {
                changed.add(taken);
            }
            texts.set(sort, List.copyOf(changed));
        }
    }

    private void image(int k) {
        boolean can = k >= 0 && k < 3;
        if (can) {
            images[k] = new Kept(List.copyOf(texts), tape, fault, place);
        }
        check.due("image " + k, x.image(k), can);
    }

    private void again(int k) {
        boolean can = k >= 0 && k < 3 && images[k] != null;
        if (can) {
            texts.clear();
            texts.addAll(images[k].texts());
            tape = images[k].tape();
            fault = images[k].fault();
            place = images[k].place();
        }
        check.due("again " + k, x.again(k), can);
    }

    private void look() {
        check.due("fault", x.fault(0), fault);
        check.due("place", x.fault(1), place);
        int sort = below(3);
        List<String> told = texts.get(sort);
        check.due("count " + sort, x.count(sort), told.size());
        if (!told.isEmpty()) {
            int number = below(told.size());
            Model model = new Model(sort, told.get(number));
            switch (sort) {
                case 0: check.due("limit", x.coast(number, 3), model.coast(3)); break;
                case 1: check.due("deeds", x.deed(number, NONE, 0), model.deed(NONE, 0)); break;
                default: check.due("men", x.log(number, 0), model.log(0));
            }
        }
    }
}
