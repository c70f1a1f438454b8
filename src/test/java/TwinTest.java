import java.util.Random;

/**
 * Calls in drawn orders with numbers of all sizes, on two objects that are told the same: one is asked again and again,
 * the other now and then alone. Both must answer alike: a question changes nothing, and no call throws.
 */
public final class TwinTest {
    private static final int ROUNDS = 2000;
    /** Told and asked, an object has at most 512 calls. */
    private static final int TURNS = 45;
    private static final int QUESTIONS = 26;
    private static final int[] EDGES = {Integer.MIN_VALUE, Integer.MIN_VALUE + 1, -300, -3, -2, -1, 9, 10, 23, 24, 59, 60, 61, 63, 64,
        99, 100, 163, 164, 599, 600, 601, Integer.MAX_VALUE - 1, Integer.MAX_VALUE};
    private static final String[] TEXTS = {
        "size 4 3;lamp 1 1;limit 3;rock 1 0;rock 2 2;guard 3 0 1;ship 0 1 4 1;divided 4;late 3 2;hired;ship 0 2 2 0;plain 0;asleep;",
        "size 8 8;limit 5;rock 3 3;rock 4 4;guard 6 6 2;ship 1 0 5 0;loyal 1;plain 1;ship 2 0 4 1;late 9 12;ship 0 5 9 3;ship 7 7 0 0;hired;",
        "go 0 1;hour;mean 0 0 9;throw 0;hour;go 1 1;go 0 2;hour;hour;throw 1;",
        "man 3;man 7;man 5;limit 2;errors 1;lit 4;dark 7;lit 6;",
        "limit 0;", "?", "", "size 8 8;lamp 7 7;size 2 2;"};
    private static final Check check = new Check();

    private final Random random;
    private final IllLight asked = new IllLight();
    private final IllLight spared = new IllLight();

    private TwinTest(int seed) {
        random = new Random(seed);
    }

    public static void main(String[] args) {
        for (int seed = 0; seed < ROUNDS; seed++) {
            TwinTest test = new TwinTest(seed);
            for (int k = 0; k < TURNS; k++) {
                test.tell(test.below(12));
                test.ask();
            }
        }
        check.close();
    }

    private int below(int n) {
        return random.nextInt(n);
    }

    /** Mostly a small number, now and then an edge of something, or any number. */
    private int number() {
        int which = below(10);
        if (which == 0) {
            return random.nextInt();
        }
        return which < 3 ? EDGES[below(EDGES.length)] : below(which < 8 ? 3 : 70);
    }

    private void tell(int which) {
        switch (which) {
            case 0: case 1: case 2: case 3:
                String text = TEXTS[below(TEXTS.length)];
                int sort = text.startsWith("go") ? 1 : text.startsWith("man") ? 2 : text.isEmpty() ? below(3) : 0;
                int at = below(3) - 1;
                check.due("text", Check.tell(asked, sort, at, text), Check.tell(spared, sort, at, text));
                break;
            case 4:
                int a = random.nextInt();
                int b = random.nextInt();
                check.due("feed", asked.feed(a, b, a, b, a), spared.feed(a, b, a, b, a));
                break;
            case 5:
                int n = number();
                check.due("end", asked.end(n), spared.end(n));
                break;
            case 6:
                int any = number();
                int place = number();
                check.due("text", asked.text(any, place), spared.text(any, place));
                break;
            case 7:
                int k = number();
                check.due("image", asked.image(k), spared.image(k));
                break;
            case 8:
                int j = number();
                check.due("again", asked.again(j), spared.again(j));
                break;
            default:
        }
    }

    private void ask() {
        int which = below(QUESTIONS);
        int[] n = {number(), number(), number(), number(), number()};
        boolean flag = below(2) == 0;
        long answer = question(asked, which, n, flag);
        check.due("asked twice: " + which, question(asked, which, n, flag), answer);
        if (below(4) == 0) {
            check.due("asked of the other: " + which, question(spared, which, n, flag), answer);
        }
    }

    private static long question(IllLight x, int which, int[] n, boolean flag) {
        switch (which) {
            case 0: return x.fault(n[0]);
            case 1: return x.coast(n[0], n[1]);
            case 2: return x.man(n[0], n[1], n[2], n[3]);
            case 3: return x.deed(n[0], n[1], n[2]);
            case 4: return x.light(n[0], n[1], n[2], n[3]);
            case 5: return x.stop(n[0], n[1]);
            case 6: return x.state(n[0], n[1], n[2], n[3]);
            case 7: return x.way(n[0], n[1], n[2]);
            case 8: return x.free(n[0], n[1], n[2], n[3]);
            case 9: return x.helps(n[0], n[1], n[2], n[3], n[4]);
            case 10: return x.rest(n[0], n[1], n[2]);
            case 11: return x.premium(n[0], n[1], n[2], flag);
            case 12: return x.log(n[0], n[1]);
            case 13: return x.fits(n[0], n[1]);
            case 14: return x.belief(n[0], n[1], flag);
            case 15: return x.drawn(n[0], n[1], n[2], n[3]);
            case 16: return x.hours(n[0], n[1], n[2]);
            case 17: return x.shade(n[0], n[1]);
            case 18: return x.leaves(n[0], n[1], n[2], n[3]);
            case 19: return x.back(n[0], n[1], n[2]);
            case 20: return x.watch(n[0], n[1], n[2]);
            case 21: return x.mutiny(n[0], n[1], n[2], flag);
            case 22: return x.next(n[0], n[1], flag);
            case 23: return x.both(n[0], n[1], n[2], flag);
            case 24: return x.count(n[0]);
            default: return x.fault(1);
        }
    }
}
