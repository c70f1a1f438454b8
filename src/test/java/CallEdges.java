import java.util.Map;
import java.util.TreeMap;

/** Promises 1 to 31: what a refused call answers, and that it changes nothing. */
final class CallEdges {
    private static final int NONE = IllLight.NONE;
    private static final int[] FAR = {Integer.MIN_VALUE, Integer.MIN_VALUE + 1, -1000000, -100, 1000000,
        Integer.MAX_VALUE - 100, Integer.MAX_VALUE - 1, Integer.MAX_VALUE};
    private static final String COAST = "size 3 5;lamp 2 4;limit 7;rock 1 2;rock 0 4;guard 2 1 3;guard 0 0 0;"
        + "ship 1 3 8 2;plain 1;hired;ship 2 2 0 9;asleep;ship 0 0 5 0;late 6 4;divided 3;loyal 0;plain 0;";
    private static final String NIGHT = "go 0 0;mean 2 3 9;throw 2;hour;";
    private static final String LOG = "man 3;man 10;limit 2;errors 1;lit 22;dark 5;dark 0;man 0;";

    private final Edge e;

    CallEdges(Edge edge) {
        e = edge;
    }

    void run() {
        newObject();
        feed();
        feedBeyond();
        end();
        text();
        textInThePlace();
        textFault();
        textRefused();
        fault();
        coast();
        man();
        deed();
        light();
        stop();
        state();
        way();
        free();
        helps();
        rest();
        premium();
        log();
        fits();
        belief();
        drawn();
        hours();
        shade();
        leaves();
        back();
        watch();
        mutiny();
        next();
        both();
        count();
        image();
        again();
        constants();
        calls();
    }

    /** A COAST, a NIGHT and a LOG, each with number 0, and none with number 1. */
    private static IllLight told() {
        IllLight x = Check.night(COAST, NIGHT);
        Check.tell(x, 2, NONE, LOG);
        return x;
    }

    private void newObject() {
        e.says("No COASTS, NIGHTS, LOGS; no images.");
        IllLight x = new IllLight();
        for (int sort = 0; sort < 3; sort++) {
            e.due("count " + sort, x.count(sort), 0);
            e.due("nothing to tell in the place of " + sort, x.text(sort, 0), -2);
        }
        e.due("coast", x.coast(0, 0), NONE);
        e.due("deed", x.deed(0, NONE, 0), -2);
        e.due("log", x.log(0, 0), NONE);
        for (int k = -1; k <= 3; k++) {
            e.due("image " + k, x.again(k), false);
        }
        e.due("no tape", x.end(1), NONE);
        e.due("no FAULT", x.fault(0), 0);
        e.due("no place", x.fault(1), NONE);
        IllLight other = told();
        e.due("another object is another one", other.count(0) + x.count(0), 1);
    }

    private void feed() {
        e.says("The tape: twenty bytes come behind it, of each number the highest first: how many it has.");
        IllLight x = new IllLight();
        e.due("behind none", x.feed(0x6C696D69, 0x7420373B, 0x6C696D69, 0x74203131, 0x3B6C616D), 20);
        e.due("behind twenty", x.feed(0x70203220, 0x333B2020, 0x20202020, 0x20202020, 0x2020200A), 40);
        e.due("read in this order", x.text(0, NONE), 0);
        e.due("LIMIT", x.coast(0, 3), 11);
        e.due("LAMP", x.coast(0, 2), 20);
        IllLight cut = new IllLight();
        cut.feed(0x6C696D69, 0x74000000, 0, 0, 0);
        cut.end(5);
        e.due("behind five", cut.feed(0x20343B20, 0x20202020, 0x20202020, 0x20202020, 0x20202020), 25);
        e.due("behind five", cut.text(0, NONE), 0);
        e.due("LIMIT", cut.coast(0, 3), 4);
        // bytes above 127 have no sign: each stands where it is put
        for (int at = 0; at < 20; at++) {
            int[] n = {0x20202020, 0x20202020, 0x20202020, 0x20202020, 0x20202020};
            n[at / 4] |= 0xFF << (24 - 8 * (at % 4));
            IllLight y = new IllLight();
            y.feed(n[0], n[1], n[2], n[3], n[4]);
            y.text(0, NONE);
            e.due("byte " + at, y.fault(1), at);
        }
    }

    private void feedBeyond() {
        e.says("NONE, and nothing comes, if there would be more than 600.");
        IllLight x = new IllLight();
        for (int k = 1; k <= 30; k++) {
            e.due("feed " + k, x.feed(0x20202020, 0x20202020, 0x20202020, 0x20202020, 0x20202020), 20 * k);
        }
        e.due("a 31st", x.feed(0, 0, 0, 0, 0), NONE);
        e.due("nothing came", x.end(601), NONE);
        e.due("nothing came", x.text(0, NONE), 0);
        for (int length = 579; length <= 600; length++) {
            IllLight y = new IllLight();
            Check.feed(y, 0, Check.times(length, " "));
            e.due("behind " + length, y.feed(0x3F3F3F3F, 0, 0, 0, 0), length <= 580 ? length + 20 : NONE);
            e.due("behind " + length, y.text(0, NONE), length <= 580 ? NONE : 0);
            e.due("the tape is free again", y.feed(0, 0, 0, 0, 0), 20);
        }
    }

    private void end() {
        e.says("The tape has its first n bytes alone: n. NONE if it has not so many, or n is below 0.");
        IllLight x = new IllLight();
        e.due("0 of none", x.end(0), 0);
        e.due("1 of none", x.end(1), NONE);
        e.due("-1 of none", x.end(-1), NONE);
        x.feed(0x6C696D69, 0x74203131, 0x3B3F3F3F, 0x3F3F3F3F, 0x3F3F3F3F);
        e.due("21 of 20", x.end(21), NONE);
        e.due("-1 of 20", x.end(-1), NONE);
        for (int n : FAR) {
            e.due(n + " of 20", x.end(n), NONE);
        }
        e.due("20 of 20", x.end(20), 20);
        e.due("9 of 20", x.end(9), 9);
        e.due("10 of 9: what was cut is gone", x.end(10), NONE);
        e.due("feed behind 9", x.feed(0x20203320, 0x20202020, 0x20202020, 0x20202020, 0x2020203B), 29);
        e.due("the cut bytes are not read", x.text(0, NONE), NONE);
        e.due("what came behind is", x.fault(1), 11);
        x.feed(0, 0, 0, 0, 0);
        e.due("0 of 20", x.end(0), 0);
        e.due("an empty text", x.text(0, NONE), 0);
        // a token ends with the tape, whatever bytes were behind it
        for (int n = 0; n <= 8; n++) {
            IllLight y = new IllLight();
            y.feed(0x6C696D69, 0x7431323B, 0x6C696D69, 0x7431323B, 0x20202020);
            y.end(n);
            e.due("the first " + n, y.text(0, NONE), n == 0 || n == 8 ? 0 : NONE);
            e.due("place in the first " + n, y.fault(1), n == 0 || n == 8 ? NONE : n < 5 ? 0 : n);
        }
        IllLight last = new IllLight();
        Check.feed(last, 0, Check.times(599, " ") + "1");
        e.due("a digit is the 600th", last.text(0, NONE), NONE);
        e.due("a digit is the 600th", last.fault(1), 599);
    }

    private void text() {
        e.says("The tape is taken (and is empty then) as a text of a sort, a further one (at NONE), or in the place of one: its number.");
        String[] texts = {"limit 2;", "hour;", "limit 2;"};
        for (int sort = 0; sort < 3; sort++) {
            IllLight x = new IllLight();
            for (int k = 0; k < 2; k++) {
                Check.feed(x, 0, texts[sort]);
                e.due("a further one", x.text(sort, NONE), k);
                e.due("the tape is empty", x.end(1), NONE);
                e.due("there are", x.count(sort), k + 1);
            }
            for (int k = 0; k < 2; k++) {
                Check.feed(x, 0, texts[sort]);
                e.due("in the place of " + k, x.text(sort, k), k);
                e.due("the tape is empty", x.end(1), NONE);
                e.due("there are", x.count(sort), 2);
            }
            e.due("an empty text", x.text(sort, 0), 0);
        }
    }

    private void textInThePlace() {
        e.says("or in the place of one");
        IllLight x = told();
        Check.tell(x, 0, NONE, COAST);
        Check.tell(x, 1, NONE, NIGHT);
        Check.tell(x, 2, NONE, LOG);
        e.due("of a COAST", Check.tell(x, 0, 0, ""), 0);
        e.due("nothing of the old one is left", describe(x, 0), "6 6 0 1 0 0");
        for (int cell = 0; cell < 36; cell++) {
            e.due("no ROCK is left", x.coast(0, 100 + cell), 0);
        }
        e.due("the other stays", describe(x, 1), "3 5 14 7 2 3");
        e.due("of a NIGHT", Check.tell(x, 1, 0, "hour;"), 0);
        e.due("its DEEDS", x.deed(0, NONE, 0), 1);
        e.due("the other stays", x.deed(1, NONE, 0), 4);
        e.due("of a LOG", Check.tell(x, 2, 0, ""), 0);
        int[] empty = {0, 1, 0, 0};
        int[] full = {3, 2, 1, 3};
        for (int what = 0; what < 4; what++) {
            e.due("of the LOG", x.log(0, what), empty[what]);
            e.due("of the other", x.log(1, what), full[what]);
        }
        // a SHIP told anew has no MEN of the old one
        Check.tell(x, 0, 1, "ship 0 0 0 0;");
        e.due("MEN", x.coast(1, 60), 0);
        e.due("a MAN", x.man(1, 0, 0, 0), NONE);
    }

    private static String describe(IllLight x, int coast) {
        StringBuilder all = new StringBuilder();
        for (int what = 0; what < 6; what++) {
            all.append(what == 0 ? "" : " ").append(x.coast(coast, what));
        }
        return all.toString();
    }

    private void textFault() {
        e.says("NONE: a FAULT.");
        String[] wrong = {"limit 3;limit 0;", "hour;hour", "limit 3;limit 0;"};
        for (int sort = 0; sort < 3; sort++) {
            IllLight x = told();
            Check.feed(x, 0, wrong[sort]);
            e.due("a further one", x.text(sort, NONE), NONE);
            e.due("there is none more", x.count(sort), 1);
            e.due("the tape is empty", x.end(1), NONE);
            e.due("in a place", Check.tell(x, sort, 0, wrong[sort]), NONE);
            e.due("the COAST stays", describe(x, 0), "3 5 14 7 2 3");
            e.due("the NIGHT stays", x.deed(0, NONE, 0), 4);
            e.due("the LOG stays", x.log(0, 1), 2);
            // nothing of a text with a FAULT is in the next one
            e.due("the next one", Check.tell(x, sort, NONE, ""), 1);
            e.due("LIMIT", x.coast(1, 3), sort == 0 ? 1 : NONE);
            e.due("DEEDS", x.deed(1, NONE, 0), sort == 1 ? 0 : -2);
            e.due("LIMIT", x.log(1, 1), sort == 2 ? 1 : NONE);
        }
    }

    private void refused(IllLight x, int sort, int at) {
        String call = "text " + sort + " " + at;
        Check.tell(x, 0, NONE, "?");
        e.due("a FAULT ahead of " + call, x.fault(0), x.count(0) == 2 ? 0 : 1);
        int coasts = x.count(0);
        int nights = x.count(1);
        int logs = x.count(2);
        Check.feed(x, 0, "limit 3;");
        e.due(call, x.text(sort, at), -2);
        e.due("FAULT behind " + call, x.fault(0), 0);
        e.due("place behind " + call, x.fault(1), NONE);
        e.due("the tape is empty behind " + call, x.feed(0, 0, 0, 0, 0), 20);
        x.end(0);
        e.due("COASTS behind " + call, x.count(0), coasts);
        e.due("NIGHTS behind " + call, x.count(1), nights);
        e.due("LOGS behind " + call, x.count(2), logs);
    }

    private void textRefused() {
        e.says("-2: there is none such, there are as many as may be, or no such sort (no text is read then, FAULT 0).");
        for (int sort = 0; sort < 3; sort++) {
            IllLight x = told();
            refused(x, sort, 1);
            refused(x, sort, 2);
            refused(x, sort, -2);
            for (int far : FAR) {
                refused(x, sort, far);
            }
            x.text(sort, NONE);
            refused(x, sort, NONE);
            refused(x, sort, 2);
            e.due("the COAST stays", describe(x, 0), "3 5 14 7 2 3");
        }
        IllLight x = told();
        for (int at = -1; at < 2; at++) {
            refused(x, -1, at);
            refused(x, 3, at);
            for (int far : FAR) {
                refused(x, far, at);
            }
        }
    }

    private void fault() {
        e.says("Of the latest text(), what 0: the FAULT, 0 without, 1: its place, NONE without. NONE for another what.");
        IllLight x = new IllLight();
        String[] texts = {"limit 3;?", "limit 0;", Check.times(5, "guard 0 0 0;"), "plain 0;", "lamp 7 7;", "ship 0 0 0 0;loyal 1;", "", "?"};
        int[] faults = {1, 2, 3, 4, 5, 6, 0, 1};
        int[] places = {8, 6, 48, 0, 9, 21, NONE, 0};
        for (int k = 0; k < texts.length; k++) {
            Check.tell(x, 0, NONE, texts[k]);
            e.due("FAULT", x.fault(0), faults[k]);
            e.due("place", x.fault(1), places[k]);
        }
        x.feed(0, 0, 0, 0, 0);
        x.end(99);
        x.coast(7, 7);
        e.due("other calls leave it", x.fault(0), 1);
        e.due("other calls leave it", x.fault(1), 0);
        for (int what = -3; what < 10; what++) {
            e.due("what " + what, x.fault(what), what == 0 ? 1 : what == 1 ? 0 : NONE);
        }
        for (int far : FAR) {
            e.due("what " + far, x.fault(far), NONE);
        }
    }

    /** Pairs of what and its answer; every other what from -300 to 400 answers the same. */
    private interface Answer {
        long by(int what);
    }

    private void only(Map<Integer, Integer> dues, int other, Answer answer) {
        for (int what = -300; what <= 400; what++) {
            e.due("what " + what, answer.by(what), dues.getOrDefault(what, other));
        }
        for (int far : FAR) {
            e.due("what " + far, answer.by(far), other);
        }
    }

    /** Every number but those of a row has no answer. */
    private void none(String what, int from, int to, int other, Answer answer) {
        for (int n = from - 70; n <= to + 70; n++) {
            if (n < from || n > to) {
                e.due("another " + what + ", " + n, answer.by(n), other);
            }
        }
        for (int far : FAR) {
            e.due("another " + what + ", " + far, answer.by(far), other);
        }
    }

    private static Map<Integer, Integer> pairs(int... numbers) {
        Map<Integer, Integer> all = new TreeMap<>();
        for (int k = 0; k < numbers.length; k += 2) {
            all.put(numbers[k], numbers[k + 1]);
        }
        return all;
    }

    private void coast() {
        e.says("Of a COAST, what 0: WIDE, 1: HIGH, 2: LAMP, 3: LIMIT, 4: GUARDS, 5: SHIPS, 10 + g, 20 + g: CELL, RANGE of a GUARD,"
            + " 30 + s, 40 + s, 50 + s, 60 + s: CELL, CARGO, CHILDREN, how many MEN of a SHIP, 100 + c: 1 if there is a ROCK at a"
            + " CELL, else 0. NONE: there is none such (of any), or for another what.");
        Map<Integer, Integer> dues = pairs(0, 3, 1, 5, 2, 14, 3, 7, 4, 2, 5, 3, 10, 5, 11, 0, 20, 3, 21, 0, 30, 10, 31, 8, 32, 0,
            40, 8, 41, 0, 42, 5, 50, 2, 51, 9, 52, 0, 60, 2, 61, 1, 62, 4);
        for (int cell = 0; cell < 15; cell++) {
            dues.put(100 + cell, cell == 7 || cell == 12 ? 1 : 0);
        }
        IllLight x = told();
        only(dues, NONE, what -> x.coast(0, what));
        none("COAST", 0, 0, NONE, n -> x.coast(n, 0));
        none("COAST", 0, 0, NONE, n -> x.coast(n, 100));
        IllLight full = Check.coast("size 8 8;" + Check.times(4, "guard 0 0 1;ship 0 0 2 3;"));
        for (int k = 0; k < 10; k++) {
            e.due("CELL of GUARD " + k, full.coast(0, 10 + k), k < 4 ? 0 : NONE);
            e.due("RANGE of GUARD " + k, full.coast(0, 20 + k), k < 4 ? 1 : NONE);
            e.due("CELL of SHIP " + k, full.coast(0, 30 + k), k < 4 ? 0 : NONE);
            e.due("CARGO of SHIP " + k, full.coast(0, 40 + k), k < 4 ? 2 : NONE);
            e.due("CHILDREN of SHIP " + k, full.coast(0, 50 + k), k < 4 ? 3 : NONE);
            e.due("MEN of SHIP " + k, full.coast(0, 60 + k), k < 4 ? 0 : NONE);
        }
        e.due("the last CELL", full.coast(0, 163), 0);
        e.due("none behind it", full.coast(0, 164), NONE);
    }

    private void man() {
        e.says("Of a MAN of a SHIP, what 0: KIND, 1, 2: his numbers (0 without). NONE: there is none such (of any), or for another what.");
        IllLight x = told();
        int[][] dues = {{0, 0, 0, 1, 0}, {0, 1, 1, 0, 0}, {1, 0, 4, 0, 0}, {2, 0, 2, 6, 4}, {2, 1, 3, 3, 0}, {2, 2, 5, 0, 0}, {2, 3, 0, 0, 0}};
        for (int[] d : dues) {
            only(pairs(0, d[2], 1, d[3], 2, d[4]), NONE, what -> x.man(0, d[0], d[1], what));
        }
        none("COAST", 0, 0, NONE, n -> x.man(n, 0, 0, 0));
        none("SHIP", 0, 2, NONE, n -> x.man(0, n, 0, 0));
        none("MAN", 0, 1, NONE, n -> x.man(0, 0, n, 0));
        none("MAN", 0, 0, NONE, n -> x.man(0, 1, n, 1));
        none("MAN", 0, 3, NONE, n -> x.man(0, 2, n, 2));
    }

    private void deed() {
        e.says("How many DEEDS (k NONE, what 0); of DEED k, what 0: 0 go, 1 mean, 2 throw, 3 hour, 1, 2, 3: its numbers (NONE without)."
            + " -2: there is none such (of either), or for another what.");
        IllLight x = told();
        only(pairs(0, 4), -2, what -> x.deed(0, NONE, what));
        only(pairs(0, 0, 1, 0, 2, 0, 3, NONE), -2, what -> x.deed(0, 0, what));
        only(pairs(0, 1, 1, 2, 2, 3, 3, 9), -2, what -> x.deed(0, 1, what));
        only(pairs(0, 2, 1, 2, 2, NONE, 3, NONE), -2, what -> x.deed(0, 2, what));
        only(pairs(0, 3, 1, NONE, 2, NONE, 3, NONE), -2, what -> x.deed(0, 3, what));
        none("k", NONE, 3, -2, k -> x.deed(0, k, 0));
        none("NIGHT", 0, 0, -2, n -> x.deed(n, 0, 0));
        none("NIGHT", 0, 0, -2, n -> x.deed(n, NONE, 0));
        x.text(1, 0);
        e.due("no DEEDS", x.deed(0, NONE, 0), 0);
        e.due("no DEED 0", x.deed(0, 0, 0), -2);
    }

    private void light() {
        e.says("Of a SHIP at an hour, 0 .. 23, as told, what 0: HARM, 1: 0 DARK, 1 it FLICKERS, 2 STEADY, 2: 1 if it is LIT, else 0,"
            + " 10 + k: what a MAN means. NONE: there is none such (of any), another hour, or for another what.");
        IllLight x = told();
        only(pairs(0, 22, 1, 1, 2, 1, 10, 6, 11, 3, 12, 8, 13, 0), NONE, what -> x.light(0, 2, 0, what));
        only(pairs(0, 13, 1, 1, 2, 0, 10, 0, 11, 0, 12, 8, 13, 0), NONE, what -> x.light(0, 2, 23, what));
        only(pairs(0, 6, 1, 0, 2, 0, 10, 1, 11, 1), NONE, what -> x.light(0, 0, 0, what));
        only(pairs(0, 0, 1, 0, 2, 0, 10, 0), NONE, what -> x.light(0, 1, 0, what));
        none("hour", 0, 23, NONE, hour -> x.light(0, 0, hour, 0));
        none("hour", 0, 23, NONE, hour -> x.light(0, 0, hour, 10));
        none("SHIP", 0, 2, NONE, n -> x.light(0, n, 0, 0));
        none("COAST", 0, 0, NONE, n -> x.light(n, 0, 0, 0));
    }

    private void stop() {
        e.says("STOP. NONE: there is none such (of either).");
        IllLight x = told();
        e.due("STOP", x.stop(0, 0), 4);
        none("COAST", 0, 0, NONE, n -> x.stop(n, 0));
        none("NIGHT", 0, 0, NONE, n -> x.stop(0, n));
        e.due("no COAST", night().stop(0, 0), NONE);
        e.due("no NIGHT", Check.coast("").stop(0, 0), NONE);
    }

    private static IllLight night() {
        IllLight x = new IllLight();
        x.text(1, NONE);
        return x;
    }

    private void state() {
        e.says("Of a STATE, what 0: the hour, 1: SHIPS STRUCK (bits), 2: CAUGHT (bits), 10 + s: CELL (NONE: lost), 20 + s: CARGO,"
            + " 30 + s: HARM now, 40 + s: 1 if the BEAM would fall on a SHIP now, else 0 (lost: 0), 50 + 4 * s + k: what a MAN means now."
            + " -2: there is no such STATE, or for another what.");
        IllLight x = told();
        only(pairs(0, 0, 1, 0, 2, 0, 10, 10, 11, 8, 12, 0, 20, 8, 21, 0, 22, 5, 30, 6, 31, 0, 32, 22, 40, 0, 41, 0, 42, 1,
            50, 1, 51, 1, 54, 0, 58, 6, 59, 3, 60, 8, 61, 0), -2, what -> x.state(0, 0, 0, what));
        // SHIP 0 is dark on the ROCK at CELL 7; SHIP 2 means 6 + 3 + 8 + 9 and has 4 of CARGO, at the second GUARD
        only(pairs(0, 1, 1, 1, 2, 4, 10, NONE, 11, 8, 12, NONE, 20, 8, 21, 0, 22, 4, 30, 6, 31, 0, 32, 27, 40, 0, 41, 0, 42, 0,
            50, 1, 51, 1, 54, 0, 58, 6, 59, 0, 60, 8, 61, 9), -2, what -> x.state(0, 0, 4, what));
        none("n", 0, 4, -2, n -> x.state(0, 0, n, 0));
        none("COAST", 0, 0, -2, n -> x.state(n, 0, 0, 0));
        none("NIGHT", 0, 0, -2, n -> x.state(0, n, 0, 0));
        IllLight full = Check.night(Check.times(4, "ship 0 0 1 0;plain 1;plain 2;plain 3;plain 4;"), "");
        Map<Integer, Integer> dues = pairs(0, 0, 1, 0, 2, 0);
        for (int s = 0; s < 4; s++) {
            dues.putAll(pairs(10 + s, 0, 20 + s, 1, 30 + s, 11, 40 + s, 1));
            for (int k = 0; k < 4; k++) {
                dues.put(50 + 4 * s + k, k + 1);
            }
        }
        only(dues, -2, what -> full.state(0, 0, 0, what));
        IllLight empty = Check.night("", "");
        only(pairs(0, 0, 1, 0, 2, 0), -2, what -> empty.state(0, 0, 0, what));
    }

    private void way() {
        e.says("WAY of a SHIP to a CELL. NONE: by none, or there is none such (of any).");
        IllLight x = Check.coast("size 2 3;rock 0 2;rock 1 2;ship 0 0 0 0;ship 1 1 0 0;");
        int[] dues = {0, 1, 1, 2, NONE, NONE};
        for (int cell = 0; cell < 6; cell++) {
            e.due("to CELL " + cell, x.way(0, 0, cell), dues[cell]);
        }
        none("CELL", 0, 5, NONE, cell -> x.way(0, 0, cell));
        none("SHIP", 0, 1, NONE, n -> x.way(0, n, 0));
        none("COAST", 0, 0, NONE, n -> x.way(n, 0, 0));
        e.due("no SHIPS", Check.coast("").way(0, 0, 0), NONE);
    }

    private void free() {
        e.says("FREE of a SHIP in n, 0 .. 60, hours, what 0: by its own light, 1: KINDLY, 2: HONEST."
            + " NONE: there is none such (of either), another n, or for another what.");
        IllLight x = Check.coast("size 2 2;rock 1 0;guard 0 1 0;ship 0 0 1 0;plain 0;");
        only(pairs(0, 4, 1, 3, 2, 3), NONE, what -> x.free(0, 0, 60, what));
        only(pairs(0, 1, 1, 1, 2, 1), NONE, what -> x.free(0, 0, 0, what));
        for (int what = 0; what < 3; what++) {
            int w = what;
            none("n", 0, 60, NONE, n -> x.free(0, 0, n, w));
            none("SHIP", 0, 0, NONE, n -> x.free(0, n, 60, w));
            none("COAST", 0, 0, NONE, n -> x.free(n, 0, 60, w));
        }
    }

    private void helps() {
        e.says("So that WAY of a SHIP to a CELL is n, 0 .. 60, or less, what 0: TAKEN (bits), 1: ILL, 2: THROWN, 3: LEAVE,"
            + " 4: LULLED (bits). NONE: by none, there is no CAPTAIN (ILL), there is none such (of any), another n, or for another what.");
        IllLight x = Check.coast("size 2 2;limit 3;guard 1 0 0;guard 0 1 0;ship 0 0 2 0;late 2 5;ship 0 0 0 0;");
        only(pairs(0, 0, 1, 0, 2, 2, 3, 5, 4, 1), NONE, what -> x.helps(0, 0, 1, 1, what));
        only(pairs(0, 0, 2, 0, 3, 0, 4, 0), NONE, what -> x.helps(0, 1, 1, 1, what));
        only(pairs(), NONE, what -> x.helps(0, 0, 1, 0, what));
        for (int what = 0; what < 5; what++) {
            int w = what;
            e.due("in 60 hours", x.helps(0, 0, 1, 60, w), 0);
            none("n", 0, 60, NONE, n -> x.helps(0, 0, 0, n, w));
            none("CELL", 0, 3, NONE, n -> x.helps(0, 0, n, 60, w));
            none("SHIP", 0, 1, NONE, n -> x.helps(0, n, 0, 60, w));
            none("COAST", 0, 0, NONE, n -> x.helps(n, 0, 0, 60, w));
        }
    }

    private void rest() {
        e.says("RESTS by R: how many (k NONE), or the k-th; k -2: SAFEST. NONE: there is none such (of either), or another R.");
        IllLight x = Check.coast("size 2 3;");
        only(pairs(-2, 0, NONE, 3, 0, 1, 1, 9, 2, 17), NONE, k -> x.rest(0, 1, k));
        only(pairs(-2, 0, NONE, 0), NONE, k -> x.rest(0, 0, k));
        for (int k = -2; k <= 0; k++) {
            int kth = k;
            none("R", 0, 7, NONE, r -> x.rest(0, r, kth));
            none("COAST", 0, 0, NONE, n -> x.rest(n, 7, kth));
        }
    }

    private void premium() {
        e.says("PREMIUM, N, or (under) D. NONE: other numbers.");
        IllLight x = new IllLight();
        for (boolean under : new boolean[] {false, true}) {
            none("n", 1, 9, NONE, n -> x.premium(n, 1, 1, under));
            none("p", 0, 10, NONE, n -> x.premium(1, n, 1, under));
            none("worth", 0, 99, NONE, n -> x.premium(1, 1, n, under));
        }
        e.due("N", x.premium(1, 3, 1, false), 3);
        e.due("D", x.premium(1, 3, 1, true), 10);
    }

    private void log() {
        e.says("Of a LOG, what 0: MEN, 1: LIMIT, 2: ERRORS, 3: FACTS, 10 + k: of how many of ten a MAN means ill, 20 + k, 30 + k:"
            + " 1 lit, 0 dark, the hour of a FACT. NONE: there is none such (of any), or for another what.");
        IllLight x = told();
        only(pairs(0, 3, 1, 2, 2, 1, 3, 3, 10, 3, 11, 10, 12, 0, 20, 1, 21, 0, 22, 0, 30, 22, 31, 5, 32, 0), NONE, what -> x.log(0, what));
        none("LOG", 0, 0, NONE, n -> x.log(n, 0));
        IllLight full = Check.log(Check.times(6, "man 7;") + Check.times(10, "lit 9;"));
        Map<Integer, Integer> dues = pairs(0, 6, 1, 1, 2, 0, 3, 10);
        for (int k = 0; k < 10; k++) {
            dues.putAll(k < 6 ? pairs(10 + k, 7, 20 + k, 1, 30 + k, 9) : pairs(20 + k, 1, 30 + k, 9));
        }
        only(dues, NONE, what -> full.log(0, what));
    }

    private void fits() {
        e.says("FIT, what 0: how many, 1: SURE (bits; NONE: nothing FITS), 2: ASK (NONE: nothing FITS), 10 + k: the k-th SET."
            + " -2: there is none such (of either), or for another what.");
        IllLight x = Check.log("limit 2;man 5;man 5;man 5;lit 4;dark 7;");
        only(pairs(0, 3, 1, 0, 2, 0, 10, 3, 11, 5, 12, 6), -2, what -> x.fits(0, what));
        IllLight none = Check.log("man 5;lit 1;dark 1;");
        only(pairs(0, 0, 1, NONE, 2, NONE), -2, what -> none.fits(0, what));
        none("LOG", 0, 0, -2, n -> x.fits(n, 0));
        none("LOG", 0, 0, -2, n -> x.fits(n, 10));
    }

    private void belief() {
        e.says("BELIEF in a MAN, N, or (under) D. NONE: there is none such (of either).");
        IllLight x = Check.log("man 3;man 10;");
        e.due("N", x.belief(0, 0, false), 3);
        e.due("D", x.belief(0, 0, true), 10);
        for (boolean under : new boolean[] {false, true}) {
            none("MAN", 0, 1, NONE, n -> x.belief(0, n, under));
            none("LOG", 0, 0, NONE, n -> x.belief(n, 0, under));
        }
        e.due("no MEN", Check.log("").belief(0, 0, true), NONE);
    }

    private void drawn() {
        e.says("DRAWN, n times, what as state(). -2: there are no SHIPS, there is none such, another n, or for another what.");
        IllLight x = told();
        only(pairs(0, 0, 1, 0, 2, 0, 10, 10, 11, 8, 12, 0, 20, 8, 21, 0, 22, 5, 30, 6, 31, 0, 32, 22, 40, 0, 41, 0, 42, 1,
            50, 1, 51, 1, 54, 0, 58, 6, 59, 3, 60, 8, 61, 0), -2, what -> x.drawn(0, 5, 0, what));
        none("n", 0, 60, -2, n -> x.drawn(0, 5, n, 0));
        none("COAST", 0, 0, -2, n -> x.drawn(n, 5, 0, 0));
        for (int far : FAR) {
            e.due("any SEED", x.drawn(0, far, 0, 10), 10);
        }
        IllLight empty = Check.coast("");
        only(pairs(), -2, what -> empty.drawn(0, 5, 0, what));
        e.due("no SHIPS, n 60", empty.drawn(0, 5, 60, 0), -2);
    }

    private void hours() {
        e.says("HOURS, what 0: LIT, 1: it FLICKERS (bits), 2: the longest row of not LIT, 3: of most HARM, 4: how many STEADY."
            + " NONE: there is none such (of either), or for another what.");
        IllLight x = Check.coast("ship 0 0 1 0;late 1 2;");
        only(pairs(0, 0x555557, 1, 0xFFFFFC, 2, 1, 3, 0, 4, 2), NONE, what -> x.hours(0, 0, what));
        for (int what = 0; what < 5; what++) {
            int w = what;
            none("SHIP", 0, 0, NONE, n -> x.hours(0, n, w));
            none("COAST", 0, 0, NONE, n -> x.hours(n, 0, w));
        }
    }

    private void shade() {
        e.says("SHADE: how many CELLS. NONE: there is none such (of either).");
        IllLight x = Check.coast("ship 0 1 0 0;");
        e.due("SHADE", x.shade(0, 0), 4);
        none("SHIP", 0, 0, NONE, n -> x.shade(0, n));
        none("COAST", 0, 0, NONE, n -> x.shade(n, 0));
    }

    private void leaves() {
        e.says("LEAVES (bits), n 0 .. 60. NONE: there is none such (of any), or another n.");
        IllLight x = Check.coast("size 2 2;rock 1 0;ship 0 0 0 0;");
        e.due("all", x.leaves(0, 0, 0, 60), 0xFFFFFF);
        e.due("none", x.leaves(0, 0, 1, 60), 0);
        none("n", 0, 60, NONE, n -> x.leaves(0, 0, 0, n));
        none("CELL", 0, 3, NONE, n -> x.leaves(0, 0, n, 60));
        none("SHIP", 0, 0, NONE, n -> x.leaves(0, n, 0, 60));
        none("COAST", 0, 0, NONE, n -> x.leaves(n, 0, 0, 60));
    }

    private void back() {
        e.says("BACK. NONE: by none, or there is none such (of any).");
        IllLight x = Check.coast("size 2 2;rock 1 0;ship 0 0 0 0;");
        int[] dues = {0, NONE, 2, 4};
        for (int cell = 0; cell < 4; cell++) {
            e.due("CELL " + cell, x.back(0, 0, cell), dues[cell]);
        }
        none("CELL", 0, 3, NONE, n -> x.back(0, 0, n));
        none("SHIP", 0, 0, NONE, n -> x.back(0, n, 0));
        none("COAST", 0, 0, NONE, n -> x.back(n, 0, 0));
    }

    private void watch() {
        e.says("WATCH, what 0: how many, 1, 2: the CELLS, 3: CROSSED. NONE: there is none such, another RANGE, or for another what.");
        IllLight x = Check.coast("size 3 3;rock 2 2;");
        only(pairs(0, 7, 1, 0, 2, 5, 3, 5), NONE, what -> x.watch(0, 1, what));
        for (int what = 0; what < 4; what++) {
            int w = what;
            none("RANGE", 0, 7, NONE, n -> x.watch(0, n, w));
            none("COAST", 0, 0, NONE, n -> x.watch(n, 1, w));
        }
    }

    private void mutiny() {
        e.says("MUTINY (bits), or (worst) WORST. NONE: no MEN, another hour, or there is none such (of either).");
        IllLight x = Check.coast("ship 0 0 0 0;plain 1;plain 3;ship 0 0 9 0;");
        for (boolean worst : new boolean[] {false, true}) {
            e.due("MUTINY, or WORST", x.mutiny(0, 0, 0, worst), worst ? 1 : 2);
            e.due("no MEN", x.mutiny(0, 1, 0, worst), NONE);
            none("hour", 0, 23, NONE, n -> x.mutiny(0, 0, n, worst));
            none("SHIP", 0, 1, NONE, n -> x.mutiny(0, n, 0, worst));
            none("COAST", 0, 0, NONE, n -> x.mutiny(n, 0, 0, worst));
        }
    }

    private void next() {
        e.says("NEXT of an hour, 0 .. 23, N, or (under) D. NONE: another hour, or there is none such.");
        IllLight x = Check.log("man 3;man 0;");
        e.due("N", x.next(0, 0, false), 3);
        e.due("D", x.next(0, 0, true), 10);
        for (boolean under : new boolean[] {false, true}) {
            none("hour", 0, 23, NONE, n -> x.next(0, n, under));
            none("LOG", 0, 0, NONE, n -> x.next(n, 0, under));
        }
    }

    private void both() {
        e.says("BOTH of two MEN, N, or (under) D. NONE: both are one, or there is none such (of any).");
        IllLight x = Check.log("man 3;man 1;");
        e.due("N", x.both(0, 0, 1, false), 3);
        e.due("D", x.both(0, 0, 1, true), 100);
        for (boolean under : new boolean[] {false, true}) {
            none("MAN", 0, 1, NONE, n -> x.both(0, n, 1, under));
            none("MAN", 0, 1, NONE, n -> x.both(0, 1, n, under));
            none("LOG", 0, 0, NONE, n -> x.both(n, 0, 1, under));
            e.due("both are one", x.both(0, 0, 0, under), NONE);
            e.due("both are one", x.both(0, 1, 1, under), NONE);
            e.due("both are one that is not there", x.both(0, 2, 2, under), NONE);
        }
    }

    private void count() {
        e.says("How many there are of a sort. -2 for another one.");
        IllLight x = new IllLight();
        for (int k = 0; k <= 3; k++) {
            int many = Math.min(k, 2);
            only(pairs(0, many, 1, many, 2, many), -2, x::count);
            for (int sort = 0; sort < 3; sort++) {
                x.text(sort, NONE);
            }
        }
    }

    private void image() {
        e.says("Image k (0 .. 2) is all that is told (the tape, the FAULT, too), as it is now: true; false for another k.");
        IllLight x = told();
        none("k", 0, 2, 0, k -> x.image(k) ? 1 : 0);
        e.due("none was kept", x.again(0) || x.again(1) || x.again(2), false);
        for (int k = 0; k < 3; k++) {
            Check.tell(x, 0, 0, "limit " + (k + 1) + ";");
            e.due("image " + k, x.image(k), true);
        }
        none("k", 0, 2, 0, k -> x.image(k) ? 1 : 0);
        for (int k = 2; k >= 0; k--) {
            e.due("again " + k, x.again(k), true);
            e.due("LIMIT of image " + k, x.coast(0, 3), k + 1);
        }
        Check.tell(x, 0, 0, "limit 9;");
        e.due("a later image 1 strikes", x.image(1), true);
        Check.tell(x, 0, 0, "limit 10;");
        int[] limits = {1, 9, 3};
        for (int k = 0; k < 3; k++) {
            x.again(k);
            e.due("LIMIT of image " + k, x.coast(0, 3), limits[k]);
        }
        IllLight empty = new IllLight();
        e.due("an image of nothing", empty.image(0), true);
        empty.text(0, NONE);
        e.due("again", empty.again(0), true);
        e.due("no COAST", empty.count(0), 0);
        e.due("none such", empty.coast(0, 0), NONE);
        IllLight tape = new IllLight();
        Check.tell(tape, 0, NONE, "limit 99;");
        Check.feed(tape, 0, "limit 8;");
        tape.image(2);
        tape.end(0);
        tape.feed(0x3F3F3F3F, 0, 0, 0, 0);
        tape.text(0, NONE);
        tape.again(2);
        e.due("the FAULT", tape.fault(0), 2);
        e.due("its place", tape.fault(1), 6);
        e.due("the tape is so long", tape.end(9), NONE);
        e.due("and has these bytes", tape.text(0, NONE), 0);
        e.due("and has these bytes", tape.coast(0, 3), 8);
    }

    private void again() {
        e.says("All that is as image k has it (other images stay): true; false if there is none such.");
        IllLight x = told();
        x.image(1);
        Check.tell(x, 0, 0, "");
        Check.tell(x, 0, NONE, "");
        Check.tell(x, 1, 0, "");
        Check.tell(x, 2, 0, "");
        x.image(2);
        none("k", 1, 2, 0, k -> x.again(k) ? 1 : 0);
        e.due("nothing has changed", describe(x, 0), "6 6 0 1 0 0");
        e.due("again 1", x.again(1), true);
        e.due("the COAST", describe(x, 0), "3 5 14 7 2 3");
        e.due("COASTS", x.count(0), 1);
        e.due("the NIGHT", x.deed(0, NONE, 0), 4);
        e.due("a DEED", x.deed(0, 1, 3), 9);
        e.due("the LOG", x.log(0, 0), 3);
        e.due("a FACT", x.log(0, 30), 22);
        e.due("a ROCK", x.coast(0, 112), 1);
        e.due("a MAN", x.man(0, 2, 0, 2), 4);
        // what is told behind it is not in the image
        Check.tell(x, 0, 0, "limit 4;");
        Check.tell(x, 1, 0, "hour;");
        Check.tell(x, 2, 0, "man 1;");
        e.due("again 1 once more", x.again(1), true);
        e.due("the COAST", describe(x, 0), "3 5 14 7 2 3");
        e.due("the NIGHT", x.deed(0, NONE, 0), 4);
        e.due("the LOG", x.log(0, 0), 3);
        e.due("the other image stays", x.again(2), true);
        e.due("COASTS", x.count(0), 2);
        e.due("the COAST", describe(x, 0), "6 6 0 1 0 0");
        e.due("image 0 is none", x.again(0), false);
    }

    private void constants() {
        e.says("The constants: `NONE = -1`: There is none.");
        e.due("NONE", IllLight.NONE, -1);
    }

    private void calls() {
        e.says("An object is used for at most 512 calls after it has been made");
        IllLight x = new IllLight();
        for (int call = 0; call < 509; call++) {
            switch (call % 5) {
                case 0: x.feed(0x6C696D69, 0x7420373B, 0x20202020, 0x20202020, 0x20202020); break;
                case 1: x.text(0, call == 1 ? NONE : 0); break;
                case 2: x.image(call % 3); break;
                case 3: x.again(call % 3); break;
                default: x.drawn(0, call, 60, 0);
            }
        }
        e.due("the 510th", x.coast(0, 3), 7);
        e.due("the 511th", x.feed(0, 0, 0, 0, 0), 20);
        e.due("the 512th", x.text(1, NONE), NONE);
    }
}
