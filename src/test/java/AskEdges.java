import java.util.Map;
import java.util.Set;
import java.util.function.Supplier;

/** Promises 6 to 28: what each question answers, and what is answered where there is none such. */
final class AskEdges {
    private static final int NONE = IllLight.NONE;
    private static final String OF_ANY = "NONE: there is none such (of any), or for another what.";
    private static final Set<Integer> FIRST = Edge.row(0, 0);

    private final Edge e;
    private final Supplier<IllLight> told = TellEdges::told;

    AskEdges(Edge edge) {
        e = edge;
    }

    void run() {
        coast();
        coastFull();
        man();
        deed();
        light();
        stop();
        state();
        stateFull();
        way();
        free();
        helps();
        rest();
        premium();
        log();
        logFull();
        fits();
        belief();
        drawn();
        hours();
        shade();
        leaves();
        back();
        watch();
        mutiny();
        next();
        both();
    }

    private static Supplier<IllLight> coastOf(String text) {
        return () -> Check.coast(text);
    }

    private static Supplier<IllLight> logOf(String text) {
        return () -> Check.log(text);
    }

    private void coast() {
        e.promise(6, "Of a COAST, what 0: WIDE, 1: HIGH, 2: LAMP, 3: LIMIT, 4: GUARDS, 5: SHIPS, 10 + g, 20 + g: CELL, RANGE of a GUARD,"
            + " 30 + s, 40 + s, 50 + s, 60 + s: CELL, CARGO, CHILDREN, how many MEN of a SHIP, 100 + c: 1 if there is a ROCK at a CELL, else 0.");
        Map<Integer, Integer> dues = Edge.pairs(0, 3, 1, 5, 2, 14, 3, 7, 4, 2, 5, 3, 10, 5, 11, 0, 20, 3, 21, 0,
            30, 10, 31, 8, 32, 0, 40, 8, 41, 0, 42, 5, 50, 2, 51, 9, 52, 0, 60, 2, 61, 1, 62, 4);
        for (int cell = 0; cell < 15; cell++) {
            dues.put(100 + cell, cell == 7 || cell == 12 ? 1 : 0);
        }
        e.each(dues, told, (x, what) -> x.coast(0, what));
        e.promise(6, OF_ANY);
        e.others("what", dues.keySet(), NONE, told, (x, what) -> x.coast(0, what));
        e.others("COAST", FIRST, NONE, told, (x, n) -> x.coast(n, 0));
        e.others("COAST", FIRST, NONE, told, (x, n) -> x.coast(n, 100));
        Map<Integer, Integer> empty = Edge.pairs(0, 6, 1, 6, 2, 0, 3, 1, 4, 0, 5, 0);
        for (int cell = 0; cell < 36; cell++) {
            empty.put(100 + cell, 0);
        }
        e.each(empty, coastOf(""), (x, what) -> x.coast(0, what));
        e.others("what, of an empty one", empty.keySet(), NONE, coastOf(""), (x, what) -> x.coast(0, what));
    }

    private void coastFull() {
        e.promise(6, "100 + c: 1 if there is a ROCK at a CELL, else 0.");
        Supplier<IllLight> full = coastOf("size 8 8;rock 0 0;rock 7 7;" + Check.times(4, "guard 0 0 1;ship 0 0 2 3;"));
        Map<Integer, Integer> dues = Edge.pairs(0, 8, 1, 8, 2, 0, 3, 1, 4, 4, 5, 4);
        for (int k = 0; k < 4; k++) {
            dues.putAll(Edge.pairs(10 + k, 0, 20 + k, 1, 30 + k, 0, 40 + k, 2, 50 + k, 3, 60 + k, 0));
        }
        for (int cell = 0; cell < 64; cell++) {
            dues.put(100 + cell, cell % 63 == 0 ? 1 : 0);
        }
        e.each(dues, full, (x, what) -> x.coast(0, what));
        e.others("what, of a full one", dues.keySet(), NONE, full, (x, what) -> x.coast(0, what));
    }

    private void man() {
        int[][] dues = {{0, 0, 0, 1, 0}, {0, 1, 1, 0, 0}, {1, 0, 4, 0, 0}, {2, 0, 2, 6, 4}, {2, 1, 3, 3, 0}, {2, 2, 5, 0, 0}, {2, 3, 0, 0, 0}};
        e.promise(7, "Of a MAN of a SHIP, what 0: KIND, 1, 2: his numbers (0 without).");
        for (int[] d : dues) {
            e.each(Edge.pairs(0, d[2], 1, d[3], 2, d[4]), told, (x, what) -> x.man(0, d[0], d[1], what));
        }
        e.promise(7, OF_ANY);
        for (int[] d : dues) {
            e.others("what", Edge.row(0, 2), NONE, told, (x, what) -> x.man(0, d[0], d[1], what));
        }
        e.others("COAST", FIRST, NONE, told, (x, n) -> x.man(n, 0, 0, 0));
        e.others("SHIP", Edge.row(0, 2), NONE, told, (x, n) -> x.man(0, n, 0, 0));
        e.others("MAN of two", Edge.row(0, 1), NONE, told, (x, n) -> x.man(0, 0, n, 0));
        e.others("MAN of one", FIRST, NONE, told, (x, n) -> x.man(0, 1, n, 1));
        e.others("MAN of four", Edge.row(0, 3), NONE, told, (x, n) -> x.man(0, 2, n, 2));
        e.due("no MEN", Check.coast("ship 0 0 0 0;").man(0, 0, 0, 0), NONE);
    }

    private void deed() {
        e.promise(8, "How many DEEDS (k NONE, what 0);");
        e.due("four", told.get().deed(0, NONE, 0), 4);
        e.due("none", Check.night("", "").deed(0, NONE, 0), 0);
        e.due("forty", Check.night("", Check.times(40, "hour;")).deed(0, NONE, 0), 40);
        e.promise(8, "of DEED k, what 0: 0 go, 1 mean, 2 throw, 3 hour, 1, 2, 3: its numbers (NONE without).");
        int[][] dues = {{0, 0, 0, NONE}, {1, 2, 3, 9}, {2, 2, NONE, NONE}, {3, NONE, NONE, NONE}};
        for (int k = 0; k < 4; k++) {
            int kth = k;
            e.each(Edge.pairs(0, dues[k][0], 1, dues[k][1], 2, dues[k][2], 3, dues[k][3]), told, (x, what) -> x.deed(0, kth, what));
        }
        e.promise(8, "-2: there is none such (of either), or for another what.");
        e.others("what of all", FIRST, -2, told, (x, what) -> x.deed(0, NONE, what));
        for (int k = 0; k < 4; k++) {
            int kth = k;
            e.others("what of DEED " + k, Edge.row(0, 3), -2, told, (x, what) -> x.deed(0, kth, what));
        }
        for (int what = 0; what < 4; what++) {
            int w = what;
            e.others("k", Edge.row(NONE, 3), -2, told, (x, k) -> x.deed(0, k, w));
            e.others("NIGHT", FIRST, -2, told, (x, n) -> x.deed(n, 0, w));
        }
        e.others("NIGHT", FIRST, -2, told, (x, n) -> x.deed(n, NONE, 0));
        e.due("no DEED 0", Check.night("", "").deed(0, 0, 0), -2);
        e.due("no DEED 40", Check.night("", Check.times(40, "hour;")).deed(0, 40, 0), -2);
    }

    private void light() {
        e.promise(9, "Of a SHIP at an hour, 0 .. 23, as told, what 0: HARM, 1: 0 DARK, 1 it FLICKERS, 2 STEADY, 2: 1 if it is LIT, else 0,"
            + " 10 + k: what a MAN means.");
        Map<Integer, Integer> first = Edge.pairs(0, 22, 1, 1, 2, 1, 10, 6, 11, 3, 12, 8, 13, 0);
        e.each(first, told, (x, what) -> x.light(0, 2, 0, what));
        e.each(Edge.pairs(0, 13, 1, 1, 2, 0, 10, 0, 11, 0, 12, 8, 13, 0), told, (x, what) -> x.light(0, 2, 23, what));
        e.each(Edge.pairs(0, 6, 1, 0, 2, 0, 10, 1, 11, 1), told, (x, what) -> x.light(0, 0, 0, what));
        e.each(Edge.pairs(0, 0, 1, 0, 2, 0, 10, 0), told, (x, what) -> x.light(0, 1, 0, what));
        e.each(Edge.pairs(0, 1, 1, 2, 2, 1), coastOf("ship 0 0 1 0;"), (x, what) -> x.light(0, 0, 23, what));
        e.promise(9, "NONE: there is none such (of any), another hour, or for another what.");
        e.others("what, four MEN", first.keySet(), NONE, told, (x, what) -> x.light(0, 2, 0, what));
        e.others("what, two MEN", Set.of(0, 1, 2, 10, 11), NONE, told, (x, what) -> x.light(0, 0, 0, what));
        e.others("what, no MEN", Edge.row(0, 2), NONE, coastOf("ship 0 0 1 0;"), (x, what) -> x.light(0, 0, 0, what));
        for (int what : new int[] {0, 1, 2, 10}) {
            e.others("hour", Edge.row(0, 23), NONE, told, (x, hour) -> x.light(0, 0, hour, what));
            e.others("SHIP", Edge.row(0, 2), NONE, told, (x, n) -> x.light(0, n, 0, what));
            e.others("COAST", FIRST, NONE, told, (x, n) -> x.light(n, 0, 0, what));
        }
    }

    private void stop() {
        e.promise(10, "STOP.");
        e.due("all can be", told.get().stop(0, 0), 4);
        e.due("none can be", Check.night("", "throw 0;").stop(0, 0), 0);
        e.promise(10, "NONE: there is none such (of either).");
        e.others("COAST", FIRST, NONE, told, (x, n) -> x.stop(n, 0));
        e.others("NIGHT", FIRST, NONE, told, (x, n) -> x.stop(0, n));
        IllLight night = new IllLight();
        night.text(1, NONE);
        e.due("no COAST", night.stop(0, 0), NONE);
        e.due("no NIGHT", Check.coast("").stop(0, 0), NONE);
    }

    private void state() {
        Map<Integer, Integer> first = Edge.pairs(0, 0, 1, 0, 2, 0, 10, 10, 11, 8, 12, 0, 20, 8, 21, 0, 22, 5, 30, 6, 31, 0, 32, 22,
            40, 0, 41, 0, 42, 1, 50, 1, 51, 1, 54, 0, 58, 6, 59, 3, 60, 8, 61, 0);
        e.promise(11, "Of a STATE, what 0: the hour, 1: SHIPS STRUCK (bits), 2: CAUGHT (bits), 10 + s: CELL (NONE: lost), 20 + s: CARGO,"
            + " 30 + s: HARM now, 40 + s: 1 if the BEAM would fall on a SHIP now, else 0 (lost: 0), 50 + 4 * s + k: what a MAN means now.");
        e.each(first, told, (x, what) -> x.state(0, 0, 0, what));
        // SHIP 0 is dark on the ROCK at CELL 7; SHIP 2 means 6 + 3 + 8 + 9 and has 4 of CARGO, at the second GUARD
        e.each(Edge.pairs(0, 1, 1, 1, 2, 4, 10, NONE, 11, 8, 12, NONE, 20, 8, 21, 0, 22, 4, 30, 6, 31, 0, 32, 27, 40, 0, 41, 0, 42, 0,
            50, 1, 51, 1, 54, 0, 58, 6, 59, 0, 60, 8, 61, 9), told, (x, what) -> x.state(0, 0, 4, what));
        e.promise(11, "-2: there is no such STATE, or for another what.");
        e.others("what", first.keySet(), -2, told, (x, what) -> x.state(0, 0, 0, what));
        e.others("what, some being lost", first.keySet(), -2, told, (x, what) -> x.state(0, 0, 4, what));
        e.others("what, without SHIPS", Edge.row(0, 2), -2, () -> Check.night("", ""), (x, what) -> x.state(0, 0, 0, what));
        for (int what : new int[] {0, 1, 2, 10, 20, 30, 40, 50}) {
            e.others("n", Edge.row(0, 4), -2, told, (x, n) -> x.state(0, 0, n, what));
            e.others("COAST", FIRST, -2, told, (x, n) -> x.state(n, 0, 0, what));
            e.others("NIGHT", FIRST, -2, told, (x, n) -> x.state(0, n, 0, what));
        }
    }

    private void stateFull() {
        e.promise(11, "50 + 4 * s + k: what a MAN means now.");
        Supplier<IllLight> full = () -> Check.night(Check.times(4, "ship 0 0 1 0;plain 1;plain 2;plain 3;plain 4;"), "");
        Map<Integer, Integer> dues = Edge.pairs(0, 0, 1, 0, 2, 0);
        for (int s = 0; s < 4; s++) {
            dues.putAll(Edge.pairs(10 + s, 0, 20 + s, 1, 30 + s, 11, 40 + s, 1));
            for (int k = 0; k < 4; k++) {
                dues.put(50 + 4 * s + k, k + 1);
            }
        }
        e.each(dues, full, (x, what) -> x.state(0, 0, 0, what));
        e.others("what, of a full one", dues.keySet(), -2, full, (x, what) -> x.state(0, 0, 0, what));
    }

    private void way() {
        Supplier<IllLight> x23 = coastOf("size 2 3;rock 0 2;rock 1 2;ship 0 0 0 0;ship 1 1 0 0;");
        e.promise(12, "WAY of a SHIP to a CELL.");
        e.each(Edge.pairs(0, 0, 1, 1, 2, 1, 3, 2), x23, (x, cell) -> x.way(0, 0, cell));
        e.each(Edge.pairs(0, 2, 1, 1, 2, 1, 3, 0), x23, (x, cell) -> x.way(0, 1, cell));
        e.promise(12, "NONE: by none, or there is none such (of any).");
        e.each(Edge.pairs(4, NONE, 5, NONE), x23, (x, cell) -> x.way(0, 0, cell));
        e.others("CELL", Edge.row(0, 5), NONE, x23, (x, cell) -> x.way(0, 0, cell));
        e.others("SHIP", Edge.row(0, 1), NONE, x23, (x, n) -> x.way(0, n, 0));
        e.others("COAST", FIRST, NONE, x23, (x, n) -> x.way(n, 0, 0));
        e.due("no SHIPS", Check.coast("").way(0, 0, 0), NONE);
    }

    private void free() {
        Supplier<IllLight> small = coastOf("size 2 2;rock 1 0;guard 0 1 0;ship 0 0 1 0;plain 0;");
        e.promise(13, "FREE of a SHIP in n, 0 .. 60, hours, what 0: by its own light, 1: KINDLY, 2: HONEST.");
        e.each(Edge.pairs(0, 4, 1, 3, 2, 3), small, (x, what) -> x.free(0, 0, 60, what));
        e.each(Edge.pairs(0, 2, 1, 2, 2, 2), small, (x, what) -> x.free(0, 0, 1, what));
        e.each(Edge.pairs(0, 1, 1, 1, 2, 1), small, (x, what) -> x.free(0, 0, 0, what));
        e.promise(13, "NONE: there is none such (of either), another n, or for another what.");
        e.others("what", Edge.row(0, 2), NONE, small, (x, what) -> x.free(0, 0, 60, what));
        for (int what = 0; what < 3; what++) {
            int w = what;
            e.others("n", Edge.row(0, 60), NONE, small, (x, n) -> x.free(0, 0, n, w));
            e.others("SHIP", FIRST, NONE, small, (x, n) -> x.free(0, n, 60, w));
            e.others("COAST", FIRST, NONE, small, (x, n) -> x.free(n, 0, 60, w));
        }
    }

    private void helps() {
        Supplier<IllLight> guarded = coastOf("size 2 2;limit 3;guard 1 0 0;guard 0 1 0;ship 0 0 2 0;late 2 5;ship 0 0 0 0;ship 0 0 9 0;plain 9;");
        e.promise(14, "So that WAY of a SHIP to a CELL is n, 0 .. 60, or less, what 0: TAKEN (bits), 1: ILL, 2: THROWN, 3: LEAVE,"
            + " 4: LULLED (bits).");
        e.each(Edge.pairs(0, 0, 1, 0, 2, 2, 3, 5, 4, 1), guarded, (x, what) -> x.helps(0, 0, 1, 1, what));
        e.each(Edge.pairs(0, 0, 1, 0, 2, 0, 3, 0, 4, 0), guarded, (x, what) -> x.helps(0, 0, 1, 60, what));
        e.each(Edge.pairs(0, 0, 1, 0, 2, 0, 3, 0, 4, 0), guarded, (x, what) -> x.helps(0, 0, 0, 0, what));
        e.promise(14, "NONE: by none, there is no CAPTAIN (ILL), there is none such (of any), another n, or for another what.");
        e.each(Edge.pairs(0, NONE, 1, NONE, 2, NONE, 3, NONE, 4, NONE), guarded, (x, what) -> x.helps(0, 0, 1, 0, what));
        e.each(Edge.pairs(0, NONE, 1, 0, 2, NONE, 3, NONE, 4, NONE), guarded, (x, what) -> x.helps(0, 2, 1, 60, what));
        e.each(Edge.pairs(0, 0, 1, NONE, 2, 0, 3, 0, 4, 0), guarded, (x, what) -> x.helps(0, 1, 1, 1, what));
        e.others("what", Edge.row(0, 4), NONE, guarded, (x, what) -> x.helps(0, 0, 0, 60, what));
        for (int what = 0; what < 5; what++) {
            int w = what;
            e.others("n", Edge.row(0, 60), NONE, guarded, (x, n) -> x.helps(0, 0, 0, n, w));
            e.others("CELL", Edge.row(0, 3), NONE, guarded, (x, n) -> x.helps(0, 0, n, 60, w));
            e.others("SHIP", Edge.row(0, 2), NONE, guarded, (x, n) -> x.helps(0, n, 0, 60, w));
            e.others("COAST", FIRST, NONE, guarded, (x, n) -> x.helps(n, 0, 0, 60, w));
        }
    }

    private void rest() {
        Supplier<IllLight> three = coastOf("size 2 3;");
        e.promise(15, "RESTS by R: how many (k NONE), or the k-th; k -2: SAFEST.");
        e.each(Edge.pairs(-2, 0, NONE, 3, 0, 1, 1, 9, 2, 17), three, (x, k) -> x.rest(0, 1, k));
        e.each(Edge.pairs(-2, 0, NONE, 0), three, (x, k) -> x.rest(0, 0, k));
        e.each(Edge.pairs(0, 0, 1, 3, 2, 9, 7, 9), three, (x, r) -> x.rest(0, r, NONE));
        e.promise(15, "NONE: there is none such (of either), or another R.");
        e.others("k of three", Edge.row(-2, 2), NONE, three, (x, k) -> x.rest(0, 1, k));
        e.others("k of none", Edge.row(-2, NONE), NONE, three, (x, k) -> x.rest(0, 0, k));
        for (int k = -2; k <= 0; k++) {
            int kth = k;
            e.others("R", Edge.row(0, 7), NONE, three, (x, r) -> x.rest(0, r, kth));
            e.others("COAST", FIRST, NONE, three, (x, n) -> x.rest(n, 7, kth));
        }
    }

    private void premium() {
        e.promise(16, "PREMIUM, N, or (under) D.");
        e.due("N", new IllLight().premium(1, 3, 1, false), 3);
        e.due("D", new IllLight().premium(1, 3, 1, true), 10);
        e.due("N", new IllLight().premium(9, 9, 99, false), 98999999901L);
        e.due("D", new IllLight().premium(9, 9, 99, true), 1000000000);
        e.promise(16, "NONE: other numbers.");
        for (boolean under : new boolean[] {false, true}) {
            e.others("n", Edge.row(1, 9), NONE, IllLight::new, (x, n) -> x.premium(n, 1, 1, under));
            e.others("p", Edge.row(0, 10), NONE, IllLight::new, (x, n) -> x.premium(1, n, 1, under));
            e.others("worth", Edge.row(0, 99), NONE, IllLight::new, (x, n) -> x.premium(1, 1, n, under));
        }
    }

    private void log() {
        Map<Integer, Integer> dues = Edge.pairs(0, 3, 1, 2, 2, 1, 3, 3, 10, 3, 11, 10, 12, 0, 20, 1, 21, 0, 22, 0, 30, 22, 31, 5, 32, 0);
        e.promise(17, "Of a LOG, what 0: MEN, 1: LIMIT, 2: ERRORS, 3: FACTS, 10 + k: of how many of ten a MAN means ill, 20 + k, 30 + k:"
            + " 1 lit, 0 dark, the hour of a FACT.");
        e.each(dues, told, (x, what) -> x.log(0, what));
        e.promise(17, OF_ANY);
        e.others("what", dues.keySet(), NONE, told, (x, what) -> x.log(0, what));
        for (int what : new int[] {0, 10, 20, 30}) {
            e.others("LOG", FIRST, NONE, told, (x, n) -> x.log(n, what));
        }
        e.each(Edge.pairs(0, 0, 1, 1, 2, 0, 3, 0), logOf(""), (x, what) -> x.log(0, what));
        e.others("what, of an empty one", Edge.row(0, 3), NONE, logOf(""), (x, what) -> x.log(0, what));
    }

    private void logFull() {
        e.promise(17, "20 + k, 30 + k: 1 lit, 0 dark, the hour of a FACT.");
        Supplier<IllLight> full = logOf(Check.times(6, "man 7;") + Check.times(5, "lit 9;dark 23;"));
        Map<Integer, Integer> dues = Edge.pairs(0, 6, 1, 1, 2, 0, 3, 10);
        for (int k = 0; k < 10; k++) {
            dues.putAll(Edge.pairs(20 + k, 1 - k % 2, 30 + k, k % 2 == 0 ? 9 : 23));
        }
        for (int k = 0; k < 6; k++) {
            dues.put(10 + k, 7);
        }
        e.each(dues, full, (x, what) -> x.log(0, what));
        e.others("what, of a full one", dues.keySet(), NONE, full, (x, what) -> x.log(0, what));
    }

    private void fits() {
        Supplier<IllLight> three = logOf("limit 2;man 5;man 5;man 5;lit 4;dark 7;");
        Supplier<IllLight> none = logOf("man 5;lit 1;dark 1;");
        Supplier<IllLight> all = logOf(Check.times(6, "man 5;"));
        e.promise(18, "FIT, what 0: how many, 1: SURE (bits; NONE: nothing FITS), 2: ASK (NONE: nothing FITS), 10 + k: the k-th SET.");
        e.each(Edge.pairs(0, 3, 1, 0, 2, 0, 10, 3, 11, 5, 12, 6), three, (x, what) -> x.fits(0, what));
        e.each(Edge.pairs(0, 0, 1, NONE, 2, NONE), none, (x, what) -> x.fits(0, what));
        e.each(Edge.pairs(0, 64, 1, 0, 10, 0, 73, 63), all, (x, what) -> x.fits(0, what));
        e.promise(18, "-2: there is none such (of either), or for another what.");
        e.others("what of three", Set.of(0, 1, 2, 10, 11, 12), -2, three, (x, what) -> x.fits(0, what));
        e.others("what of none", Edge.row(0, 2), -2, none, (x, what) -> x.fits(0, what));
        Set<Integer> whats = Edge.row(10, 73);
        whats.addAll(Edge.row(0, 2));
        e.others("what of all", whats, -2, all, (x, what) -> x.fits(0, what));
        for (int what : new int[] {0, 1, 2, 10}) {
            e.others("LOG", FIRST, -2, three, (x, n) -> x.fits(n, what));
        }
    }

    private void belief() {
        Supplier<IllLight> two = logOf("man 3;man 10;");
        e.promise(19, "BELIEF in a MAN, N, or (under) D.");
        e.due("N", two.get().belief(0, 0, false), 3);
        e.due("D", two.get().belief(0, 0, true), 10);
        e.promise(19, "NONE: there is none such (of either).");
        for (boolean under : new boolean[] {false, true}) {
            e.others("MAN", Edge.row(0, 1), NONE, two, (x, n) -> x.belief(0, n, under));
            e.others("LOG", FIRST, NONE, two, (x, n) -> x.belief(n, 0, under));
            e.due("no MEN", Check.log("").belief(0, 0, under), NONE);
            e.due("no MAN 6", Check.log(Check.times(6, "man 5;")).belief(0, 6, under), NONE);
        }
    }

    private void drawn() {
        Map<Integer, Integer> first = Edge.pairs(0, 0, 1, 0, 2, 0, 10, 10, 11, 8, 12, 0, 20, 8, 21, 0, 22, 5, 30, 6, 31, 0, 32, 22,
            40, 0, 41, 0, 42, 1, 50, 1, 51, 1, 54, 0, 58, 6, 59, 3, 60, 8, 61, 0);
        e.promise(20, "DRAWN, n times, what as state().");
        e.each(first, told, (x, what) -> x.drawn(0, 5, 0, what));
        for (int seed : Edge.FAR) {
            e.due("any SEED", told.get().drawn(0, seed, 0, 10), 10);
        }
        e.promise(20, "-2: there are no SHIPS, there is none such, another n, or for another what.");
        e.others("what", first.keySet(), -2, told, (x, what) -> x.drawn(0, 5, 0, what));
        e.others("what, n 60", first.keySet(), -2, told, (x, what) -> x.drawn(0, 5, 60, what));
        e.others("what, no SHIPS", Edge.row(0, NONE), -2, coastOf(""), (x, what) -> x.drawn(0, 5, 0, what));
        e.due("no SHIPS, n 60", Check.coast("").drawn(0, 5, 60, 0), -2);
        for (int what : new int[] {0, 10, 50}) {
            e.others("n", Edge.row(0, 60), -2, told, (x, n) -> x.drawn(0, 5, n, what));
            e.others("COAST", FIRST, -2, told, (x, n) -> x.drawn(n, 5, 0, what));
        }
    }

    private void hours() {
        Supplier<IllLight> late = coastOf("ship 0 0 1 0;late 1 2;");
        e.promise(21, "HOURS, what 0: LIT, 1: it FLICKERS (bits), 2: the longest row of not LIT, 3: of most HARM, 4: how many STEADY.");
        e.each(Edge.pairs(0, 0x555557, 1, 0xFFFFFC, 2, 1, 3, 0, 4, 2), late, (x, what) -> x.hours(0, 0, what));
        e.promise(21, "NONE: there is none such (of either), or for another what.");
        e.others("what", Edge.row(0, 4), NONE, late, (x, what) -> x.hours(0, 0, what));
        for (int what = 0; what < 5; what++) {
            int w = what;
            e.others("SHIP", FIRST, NONE, late, (x, n) -> x.hours(0, n, w));
            e.others("COAST", FIRST, NONE, late, (x, n) -> x.hours(n, 0, w));
        }
    }

    private void shade() {
        Supplier<IllLight> below = coastOf("ship 0 1 0 0;");
        e.promise(22, "SHADE: how many CELLS.");
        e.due("SHADE", below.get().shade(0, 0), 4);
        e.promise(22, "NONE: there is none such (of either).");
        e.others("SHIP", FIRST, NONE, below, (x, n) -> x.shade(0, n));
        e.others("COAST", FIRST, NONE, below, (x, n) -> x.shade(n, 0));
    }

    private void leaves() {
        Supplier<IllLight> rock = coastOf("size 2 2;rock 1 0;ship 0 0 0 0;");
        e.promise(23, "LEAVES (bits), n 0 .. 60.");
        e.due("all", rock.get().leaves(0, 0, 0, 60), 0xFFFFFF);
        e.due("all, n 0", rock.get().leaves(0, 0, 0, 0), 0xFFFFFF);
        e.due("none", rock.get().leaves(0, 0, 1, 60), 0);
        e.promise(23, "NONE: there is none such (of any), or another n.");
        e.others("n", Edge.row(0, 60), NONE, rock, (x, n) -> x.leaves(0, 0, 0, n));
        e.others("CELL", Edge.row(0, 3), NONE, rock, (x, n) -> x.leaves(0, 0, n, 60));
        e.others("SHIP", FIRST, NONE, rock, (x, n) -> x.leaves(0, n, 0, 60));
        e.others("COAST", FIRST, NONE, rock, (x, n) -> x.leaves(n, 0, 0, 60));
    }

    private void back() {
        Supplier<IllLight> rock = coastOf("size 2 2;rock 1 0;ship 0 0 0 0;");
        e.promise(24, "BACK.");
        e.each(Edge.pairs(0, 0, 2, 2, 3, 4), rock, (x, cell) -> x.back(0, 0, cell));
        e.promise(24, "NONE: by none, or there is none such (of any).");
        e.due("by none", rock.get().back(0, 0, 1), NONE);
        e.others("CELL", Edge.row(0, 3), NONE, rock, (x, n) -> x.back(0, 0, n));
        e.others("SHIP", FIRST, NONE, rock, (x, n) -> x.back(0, n, 0));
        e.others("COAST", FIRST, NONE, rock, (x, n) -> x.back(n, 0, 0));
    }

    private void watch() {
        Supplier<IllLight> three = coastOf("size 3 3;rock 2 2;");
        e.promise(25, "WATCH, what 0: how many, 1, 2: the CELLS, 3: CROSSED.");
        e.each(Edge.pairs(0, 7, 1, 0, 2, 5, 3, 5), three, (x, what) -> x.watch(0, 1, what));
        e.promise(25, "NONE: there is none such, another RANGE, or for another what.");
        e.others("what", Edge.row(0, 3), NONE, three, (x, what) -> x.watch(0, 1, what));
        for (int what = 0; what < 4; what++) {
            int w = what;
            e.others("RANGE", Edge.row(0, 7), NONE, three, (x, n) -> x.watch(0, n, w));
            e.others("COAST", FIRST, NONE, three, (x, n) -> x.watch(n, 1, w));
        }
    }

    private void mutiny() {
        Supplier<IllLight> two = coastOf("ship 0 0 0 0;plain 1;plain 3;ship 0 0 9 0;");
        e.promise(26, "MUTINY (bits), or (worst) WORST.");
        e.due("MUTINY", two.get().mutiny(0, 0, 0, false), 2);
        e.due("WORST", two.get().mutiny(0, 0, 0, true), 1);
        e.promise(26, "NONE: no MEN, another hour, or there is none such (of either).");
        for (boolean worst : new boolean[] {false, true}) {
            e.due("no MEN", two.get().mutiny(0, 1, 0, worst), NONE);
            e.others("hour", Edge.row(0, 23), NONE, two, (x, n) -> x.mutiny(0, 0, n, worst));
            e.others("SHIP", Edge.row(0, 1), NONE, two, (x, n) -> x.mutiny(0, n, 0, worst));
            e.others("COAST", FIRST, NONE, two, (x, n) -> x.mutiny(n, 0, 0, worst));
        }
    }

    private void next() {
        Supplier<IllLight> two = logOf("man 3;man 0;");
        e.promise(27, "NEXT of an hour, 0 .. 23, N, or (under) D.");
        e.due("N", two.get().next(0, 0, false), 3);
        e.due("D", two.get().next(0, 0, true), 10);
        e.due("N in hour 23", two.get().next(0, 23, false), 0);
        e.due("D in hour 23", two.get().next(0, 23, true), 1);
        e.promise(27, "NONE: another hour, or there is none such.");
        for (boolean under : new boolean[] {false, true}) {
            e.others("hour", Edge.row(0, 23), NONE, two, (x, n) -> x.next(0, n, under));
            e.others("LOG", FIRST, NONE, two, (x, n) -> x.next(n, 0, under));
        }
    }

    private void both() {
        Supplier<IllLight> two = logOf("man 3;man 1;");
        e.promise(28, "BOTH of two MEN, N, or (under) D.");
        e.due("N", two.get().both(0, 0, 1, false), 3);
        e.due("D", two.get().both(0, 0, 1, true), 100);
        e.promise(28, "NONE: both are one, or there is none such (of any).");
        for (boolean under : new boolean[] {false, true}) {
            e.others("first MAN", Edge.row(0, 1), NONE, two, (x, n) -> x.both(0, n, 1, under));
            e.others("second MAN", Edge.row(0, 1), NONE, two, (x, n) -> x.both(0, 1, n, under));
            e.others("LOG", FIRST, NONE, two, (x, n) -> x.both(n, 0, 1, under));
            for (int n = -1; n <= 6; n++) {
                e.due("both are one, " + n, two.get().both(0, n, n, under), NONE);
            }
        }
    }
}
