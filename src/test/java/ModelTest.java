import java.util.Random;

/** Texts and calls drawn with fixed seeds, asked of the class and of the model. */
public final class ModelTest {
    private static final int NONE = IllLight.NONE;
    private static final int ROUNDS = 800;
    private static final int CALLS = 150;
    private static final Check check = new Check();

    private final Random random;
    private final IllLight x = new IllLight();
    private final Model[][] told = new Model[3][2];
    private final int[] counts = new int[3];

    private ModelTest(int seed) {
        random = new Random(seed);
    }

    public static void main(String[] args) {
        for (int seed = 0; seed < ROUNDS; seed++) {
            new ModelTest(seed).round();
        }
        for (int n = 0; n <= 10; n++) {
            for (int p = -1; p <= 11; p++) {
                IllLight x = new IllLight();
                for (int worth = -1; worth <= 100; worth++) {
                    String call = "premium " + n + " " + p + " " + worth;
                    check.due(call, x.premium(n, p, worth, false), Model.premium(n, p, worth, false));
                    check.due(call, x.premium(n, p, worth, true), Model.premium(n, p, worth, true));
                }
            }
        }
        check.close();
    }

    private int below(int n) {
        return random.nextInt(n);
    }

    private boolean rarely() {
        return below(30) == 0;
    }

    private void round() {
        for (int k = 0; k < 8; k++) {
            int sort = below(3);
            String text = sort == 0 ? coastText() : sort == 1 ? nightText() : logText();
            tell(sort, text.length() > 600 ? text.substring(0, 600) : text);
        }
        for (int k = 0; k < CALLS; k++) {
            ask();
        }
    }

    private void tell(int sort, String text) {
        int at = counts[sort] == 0 || counts[sort] == 1 && below(2) == 0 ? NONE : below(counts[sort]);
        Model model = new Model(sort, text);
        int number = at == NONE ? counts[sort] : at;
        check.due("text '" + text + "'", Check.tell(x, sort, at, text), model.fault == 0 ? number : NONE);
        check.due("fault of '" + text + "'", x.fault(0), model.fault);
        check.due("place of '" + text + "'", x.fault(1), model.place);
        if (model.fault == 0) {
            told[sort][number] = model;
            counts[sort] = Math.max(counts[sort], number + 1);
        }
    }

    // ---- texts

    private String line(String word, int... belows) {
        StringBuilder line = new StringBuilder(word);
        for (int n : belows) {
            line.append(below(40) == 0 ? "\n " : " ").append(below(400) == 0 ? below(110) : below(n));
        }
        line.append(below(40) == 0 ? " ;" : ";");
        return line.toString();
    }

    private String spoilt(StringBuilder text) {
        if (below(12) == 0 && text.length() > 0) {
            int at = below(text.length());
            if (below(2) == 0) {
                text.deleteCharAt(at);
            } else {
                text.setCharAt(at, "azlmit059; \n\t?A\u00e9".charAt(below(16)));
            }
        }
        return text.toString();
    }

    private String coastText() {
        int wide = 2 + below(7);
        int high = 2 + below(7);
        StringBuilder text = new StringBuilder();
        String size = "size " + wide + " " + high + ";";
        boolean late = below(3) == 0;
        text.append(late ? "" : size);
        if (below(3) > 0) {
            text.append(line("lamp", wide, high));
        }
        if (below(3) > 0) {
            text.append("limit ").append(1 + below(below(2) == 0 ? 6 : 20)).append(";");
        }
        for (int k = below(3) == 0 ? 0 : below(wide * high); k > 0; k--) {
            text.append(line("rock", wide, high));
        }
        for (int k = below(4); k > 0; k--) {
            text.append(line("guard", wide, high, below(2) == 0 ? 2 : 4));
        }
        int ships = below(20) == 0 ? 5 : below(5);
        for (int ship = 0; ship < ships; ship++) {
            boolean inLine = below(2) == 0;
            text.append(line("ship", inLine ? 1 : wide, high, below(2) == 0 ? 3 : 10, below(3) == 0 ? 4 : 1));
            for (int k = rarely() ? 5 : below(5); k > 0; k--) {
                text.append(man(ships));
            }
        }
        text.append(late ? size : "");
        if (rarely()) {
            text.insert(0, man(4));
        }
        return spoilt(text);
    }

    private String man(int ships) {
        switch (below(7)) {
            case 0: return line("hired");
            case 1: return line("late", 10, 24);
            case 2: return line("divided", 10);
            case 3: return line("asleep");
            case 4: return line("loyal", rarely() ? 4 : Math.max(ships, 1));
            default: return line("plain", below(2) == 0 ? 2 : 10);
        }
    }

    private String nightText() {
        StringBuilder text = new StringBuilder();
        int ships = 1 + below(4);
        int deeds = below(15) == 0 ? 41 : below(41);
        int careful = 1 + below(10);
        for (int k = 0; k < deeds; k++) {
            switch (below(8)) {
                case 0: text.append(line("mean", ships, careful > 1 ? 1 : 4, 10)); break;
                case 1: text.append(below(careful) == 0 ? line("throw", ships) : line("hour")); break;
                case 2: case 3: case 4: text.append(below(careful) < 3 ? line("go", ships, 4) : line("hour")); break;
                default: text.append(line("hour"));
            }
        }
        return spoilt(text);
    }

    private String logText() {
        StringBuilder text = new StringBuilder();
        for (int k = below(25) == 0 ? 7 : below(7); k > 0; k--) {
            text.append(line("man", 11));
        }
        if (below(2) == 0) {
            text.append("limit ").append(1 + below(6)).append(";");
        }
        if (below(2) == 0) {
            text.append(line("errors", 10));
        }
        for (int k = below(25) == 0 ? 11 : below(below(2) == 0 ? 3 : 11); k > 0; k--) {
            text.append(line(below(2) == 0 ? "lit" : "dark", 24));
        }
        return spoilt(text);
    }

    // ---- calls

    /** Mostly a number from 0 to most, now and then one beyond. */
    private int about(int most) {
        return rarely() ? below(most + 5) - 2 : below(most + 1);
    }

    private int number(int sort) {
        return rarely() || counts[sort] == 0 ? below(4) - 1 : below(counts[sort]);
    }

    private Model of(int sort, int number) {
        return number < 0 || number >= counts[sort] ? null : told[sort][number];
    }

    private void ask() {
        int which = below(20);
        if (which < 4) {
            askLog(which, number(2));
        } else if (which < 7) {
            askNight(which, number(1), number(0));
        } else {
            askCoast(which, number(0));
        }
    }

    private void askLog(int which, int log) {
        Model m = of(2, log);
        int a = about(5);
        int b = about(5);
        int hour = about(23);
        int what = about(40);
        boolean under = below(2) == 0;
        switch (which) {
            case 0:
                check.due("log " + what, x.log(log, what), m == null ? NONE : m.log(what));
                break;
            case 1:
                what = below(2) == 0 ? about(4) : about(75);
                check.due("fits " + what, x.fits(log, what), m == null ? -2 : m.fits(what));
                break;
            case 2:
                check.due("belief " + a, x.belief(log, a, under), m == null ? NONE : m.belief(a, under));
                break;
            default:
                check.due("next " + hour, x.next(log, hour, under), m == null ? NONE : m.next(hour, under));
                check.due("both " + a + " " + b, x.both(log, a, b, under), m == null ? NONE : m.both(a, b, under));
        }
    }

    private void askNight(int which, int night, int coast) {
        Model n = of(1, night);
        Model c = of(0, coast);
        boolean none = n == null || c == null;
        if (which == 4) {
            int k = about(40) - (rarely() ? 1 : 0);
            int what = about(3);
            check.due("deed " + k + " " + what, x.deed(night, k, what), n == null ? -2 : n.deed(k, what));
            return;
        }
        int stop = none ? NONE : n.stop(c);
        check.due("stop", x.stop(coast, night), stop);
        for (int k = 0; k < 2; k++) {
            int at = below(3) == 0 ? about(40) : Math.max(stop - below(4), 0);
            int what = below(3) == 0 ? about(2) : 10 + about(56);
            Model.Coast state = none || at > stop ? null : n.after(c.coast(), at);
            check.due("state " + at + " " + what, x.state(coast, night, at, what), state == null ? -2 : Model.state(state, what));
        }
    }

    private void askCoast(int which, int coast) {
        Model m = of(0, coast);
        boolean none = m == null;
        int ship = about(3);
        int man = about(3);
        int hour = about(23);
        int cell = about(below(3) == 0 ? 63 : none ? 8 : m.coast(0) * m.coast(1) - 1);
        int n = below(3) == 0 ? about(60) : about(8);
        switch (which) {
            case 7:
                int what = below(3) == 0 ? 100 + about(64) : about(70);
                check.due("coast " + what, x.coast(coast, what), none ? NONE : m.coast(what));
                break;
            case 8:
                int of = about(2);
                check.due("man", x.man(coast, ship, man, of), none ? NONE : m.man(ship, man, of));
                break;
            case 9:
                int light = below(2) == 0 ? about(3) : 10 + about(3);
                check.due("light " + light, x.light(coast, ship, hour, light), none ? NONE : m.light(ship, hour, light));
                break;
            case 10:
                check.due("way " + cell, x.way(coast, ship, cell), none ? NONE : m.way(ship, cell));
                break;
            case 11:
                int free = about(2);
                check.due("free " + n + " " + free, x.free(coast, ship, n, free), none ? NONE : m.free(ship, n, free));
                break;
            case 12: case 13:
                int help = about(4);
                check.due("helps " + cell + " " + n + " " + help, x.helps(coast, ship, cell, n, help),
                    none ? NONE : m.helps(ship, cell, n, help));
                break;
            case 14:
                int r = about(5);
                int k = below(2) == 0 ? -1 - below(2) : about(10);
                check.due("rest " + r + " " + k, x.rest(coast, r, k), none ? NONE : m.rest(r, k));
                break;
            case 15:
                int seed = random.nextInt();
                int state = below(2) == 0 ? about(2) : 10 + about(56);
                check.due("drawn " + seed + " " + n + " " + state, x.drawn(coast, seed, n, state), none ? -2 : m.drawn(seed, n, state));
                break;
            case 16:
                int hours = about(4);
                check.due("hours " + hours, x.hours(coast, ship, hours), none ? NONE : m.hours(ship, hours));
                check.due("shade", x.shade(coast, ship), none ? NONE : m.shade(ship));
                break;
            case 17:
                check.due("leaves " + cell + " " + n, x.leaves(coast, ship, cell, n), none ? NONE : m.leaves(ship, cell, n));
                break;
            case 18:
                check.due("back " + cell, x.back(coast, ship, cell), none ? NONE : m.back(ship, cell));
                break;
            default:
                int range = about(7);
                int watch = below(4) == 0 ? about(2) : 3;
                boolean worst = below(2) == 0;
                check.due("watch " + range + " " + watch, x.watch(coast, range, watch), none ? NONE : m.watch(range, watch));
                check.due("mutiny " + hour, x.mutiny(coast, ship, hour, worst), none ? NONE : m.mutiny(ship, hour, worst));
        }
    }
}
