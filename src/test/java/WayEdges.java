/** Terms 3: WAYS and what helps, ROWS, PREMIUMS. */
final class WayEdges {
    private static final int NONE = IllLight.NONE;

    /**
     * Lit in hours 0, 24 and 48 alone. The wall in column 2 opens in hour 24, that behind it in hour 48 and in row 0 alone;
     * from there a path winds down columns 6 and 7: at (7, 6) in 59 hours, at (7, 7) in 60, at (6, 7) in 61.
     */
    static final String FAR = "size 8 8;ship 0 0 0 0;late 1 1;rock 6 1;rock 7 3;rock 6 5;rock 5 0;rock 2 0;"
        + wall(2) + wall(4) + wall(5);

    /** A ROCK beside the SHIP on either side: it can leave in light alone. */
    private static final String ROCKS = "size 2 2;rock 1 0;rock 0 1;";

    /** Guarded on either side: it can leave in the dark alone. */
    private static final String GUARDED = "size 2 2;guard 1 0 0;guard 0 1 0;";

    /** Lit in hour 0 and dark in hour 1 it comes to CELL 2 in two hours. */
    private static final String LIT_THEN_DARK = "size 3 2;rock 1 0;guard 2 0 0;";

    private final Edge e;

    WayEdges(Edge edge) {
        e = edge;
    }

    private static String wall(int column) {
        StringBuilder rocks = new StringBuilder();
        for (int row = 1; row < 8; row++) {
            rocks.append("rock ").append(column).append(' ').append(row).append(';');
        }
        return rocks.toString();
    }

    void run() {
        asTold();
        fewestHours();
        stepOrNone();
        neitherStruckNorCaught();
        litByItself();
        hoursGoOn();
        free();
        inOneThing();
        taken();
        hiredWithoutCaptain();
        ill();
        thrown();
        leave();
        lulled();
        kindly();
        honest();
        rows();
        rests();
        safest();
        premium();
    }

    private void asTold() {
        e.says("(Of a COAST as told, one SHIP, as if no other were there.)");
        IllLight x = Check.night("size 3 2;lamp 0 0;rock 1 0;rock 1 1;ship 0 0 1 0;ship 0 1 0 0;", "go 0 1;hour;throw 0;");
        e.due("a NIGHT has moved it", x.state(0, 0, 3, 10), 1);
        e.due("the WAY is from its CELL as told", x.way(0, 0, 0), 0);
        e.due("with its CARGO as told", x.way(0, 0, 2), 2);
        e.due("the other by its own light", x.way(0, 1, 5), NONE);
        IllLight crowd = Check.coast("size 2 2;ship 0 0 1 0;ship 1 0 1 0;ship 0 1 1 0;ship 1 1 1 0;");
        e.due("it comes to CELLS where others are", crowd.free(0, 0, 2, 0), 4);
    }

    private void fewestHours() {
        e.says("WAY from its CELL to a CELL: the fewest hours, 0 to 60");
        IllLight open = Check.coast("size 8 8;ship 7 0 0 0;");
        e.due("to its own CELL", open.way(0, 0, 7), 0);
        e.due("to the next", open.way(0, 0, 6), 1);
        e.due("to the far corner", open.way(0, 0, 56), 14);
        IllLight far = Check.coast(FAR);
        e.due("59 hours", far.way(0, 0, 55), 59);
        e.due("60 hours", far.way(0, 0, 63), 60);
        e.due("60 hours, beside", far.way(0, 0, 54), 60);
        e.due("61 hours are too many", far.way(0, 0, 62), NONE);
    }

    private void stepOrNone() {
        e.says("each a step to a next CELL, or none");
        // the guarded CELL is dark from hour 20 on: 20 hours of waiting, and a step
        e.due("it waits", Check.coast("size 2 2;guard 1 0 0;ship 0 0 0 0;late 1 20;").way(0, 0, 1), 21);
        // it must leave the ROCK in hour 0, and may be there again in hour 24
        IllLight x = Check.coast("size 2 2;rock 0 0;rock 1 0;ship 0 0 0 0;late 0 1;");
        e.due("it leaves", x.way(0, 0, 2), 1);
        e.due("no step across a corner", Check.coast("size 2 2;ship 0 0 0 0;").way(0, 0, 3), 2);
        e.due("no step from row to row at an edge", Check.coast("size 8 2;ship 7 0 0 0;").way(0, 0, 8), 8);
        e.due("no step from row to row at an edge", Check.coast("size 8 2;ship 0 1 0 0;").way(0, 0, 7), 8);
        e.due("no step out at the top and in below", Check.coast("size 2 8;ship 0 0 0 0;").way(0, 0, 14), 7);
    }

    private void neitherStruckNorCaught() {
        e.says("so that at the end of none it would be STRUCK or CAUGHT");
        e.due("dark to a ROCK", Check.coast(ROCKS + "ship 0 0 0 0;").way(0, 0, 1), NONE);
        e.due("dark past ROCKS", Check.coast(ROCKS + "ship 0 0 0 0;").way(0, 0, 3), NONE);
        e.due("lit to a ROCK", Check.coast(ROCKS + "ship 0 0 1 0;").way(0, 0, 1), 1);
        e.due("lit past ROCKS", Check.coast(ROCKS + "ship 0 0 1 0;").way(0, 0, 3), 2);
        e.due("lit to a GUARD", Check.coast(GUARDED + "ship 0 0 1 0;").way(0, 0, 1), NONE);
        e.due("lit past GUARDS", Check.coast(GUARDED + "ship 0 0 1 0;").way(0, 0, 3), NONE);
        e.due("dark to a GUARD", Check.coast(GUARDED + "ship 0 0 0 0;").way(0, 0, 1), 1);
        e.due("dark past GUARDS", Check.coast(GUARDED + "ship 0 0 0 0;").way(0, 0, 3), 2);
        e.due("dark on a ROCK: no hour has an end", Check.coast("rock 0 0;ship 0 0 0 0;").way(0, 0, 0), 0);
        e.due("dark on a ROCK: away at once", Check.coast("rock 0 0;ship 0 0 0 0;").way(0, 0, 1), 1);
        e.due("dark among ROCKS", Check.coast("size 2 2;rock 0 0;rock 1 0;rock 0 1;ship 0 0 0 0;").way(0, 0, 1), NONE);
        e.due("lit at a GUARD: away at once", Check.coast("guard 0 0 0;ship 0 0 1 0;").way(0, 0, 1), 1);
        e.due("lit in a RANGE of 1", Check.coast("guard 0 0 1;ship 0 0 1 0;").way(0, 0, 1), NONE);
        e.due("lit in a RANGE of 1, at its edge", Check.coast("guard 0 0 1;ship 1 0 1 0;").way(0, 0, 2), 1);
        e.due("lit on a guarded ROCK", Check.coast("size 2 2;rock 1 0;guard 1 0 0;ship 0 0 1 0;").way(0, 0, 1), NONE);
        e.due("dark on a guarded ROCK", Check.coast("size 2 2;rock 1 0;guard 1 0 0;ship 0 0 0 0;").way(0, 0, 1), NONE);
    }

    private void litByItself() {
        e.says("(LIT by itself;");
        // SHIP 1 stands between the LAMP and SHIP 0, and is dark
        IllLight x = Check.night("size 8 2;lamp 0 0;rock 5 0;ship 4 0 1 0;ship 2 0 0 0;", "hour;");
        e.due("the BEAM does not fall on it", x.state(0, 0, 0, 40), 0);
        e.due("it comes to the ROCK all the same", x.way(0, 0, 5), 1);
    }

    private void hoursGoOn() {
        e.says("hours behind 23 go on as hours 0 to 23 again, LATE too)");
        // lit in hour 0 alone; the ROCKS are two steps off, so they open in hour 24
        IllLight x = Check.coast("size 4 2;rock 2 0;rock 2 1;ship 0 0 0 0;late 1 1;");
        e.due("in hour 24", x.way(0, 0, 2), 25);
        e.due("and on", x.way(0, 0, 3), 26);
        // lit in hours 0 to 22: past the first GUARDS in hour 23, past the next in hour 47
        IllLight y = Check.coast("size 5 2;guard 1 0 0;guard 1 1 0;guard 3 0 0;guard 3 1 0;ship 0 0 0 0;late 1 23;");
        e.due("in hour 23", y.way(0, 0, 1), 24);
        e.due("between them", y.way(0, 0, 2), 25);
        e.due("in hour 47", y.way(0, 0, 3), 48);
        e.due("behind them", y.way(0, 0, 4), 49);
        // it FLICKERS: hour 24 is even as hour 0 is
        IllLight z = Check.coast("size 3 2;rock 1 0;rock 1 1;guard 2 0 0;ship 0 0 1 0;plain 0;");
        e.due("lit, then dark", z.way(0, 0, 2), 2);
    }

    private void free() {
        e.says("FREE: how many CELLS it can so come to in n hours or less");
        IllLight open = Check.coast("size 8 8;ship 0 0 0 0;");
        int[] dues = {1, 3, 6, 10, 15, 21, 28, 36, 43, 49, 54, 58, 61, 63, 64, 64};
        for (int n = 0; n < dues.length; n++) {
            e.due("in " + n + " hours", open.free(0, 0, n, 0), dues[n]);
        }
        e.due("in 60 hours", open.free(0, 0, 60, 0), 64);
        IllLight far = Check.coast(FAR);
        e.due("two more in the 60th hour", far.free(0, 0, 60, 0) - far.free(0, 0, 59, 0), 2);
        e.due("its own CELL, a ROCK among ROCKS",
            Check.coast("size 2 2;rock 0 0;rock 1 0;rock 0 1;ship 0 0 0 0;").free(0, 0, 60, 0), 1);
        // from the ROCK in hour 0; no CELL is counted twice, and those it must leave count too
        e.due("CELLS it can't stay at", Check.coast("size 2 2;rock 0 0;ship 0 0 0 0;").free(0, 0, 60, 0), 4);
    }

    private int helpsOf(String coast, int cell, int n, int what) {
        return Check.coast(coast).helps(0, 0, cell, n, what);
    }

    private void inOneThing() {
        e.says("Otherwise in one thing:");
        // 3 of CARGO, a CAPTAIN of 3: it stays lit in hour 0 without either of them alone
        String both = GUARDED + "limit 2;ship 0 0 3 0;plain 3;";
        for (int what = 0; what < 5; what++) {
            e.due("what " + what, helpsOf(both, 1, 1, what), NONE);
        }
        IllLight x = Check.coast(GUARDED + "limit 4;ship 0 0 3 0;plain 3;");
        int[] dues = {0, 0, 3, NONE, 1};
        for (int k = 0; k < 2; k++) {
            for (int what = 0; what < 5; what++) {
                e.due("what " + what + ", round " + k, x.helps(0, 0, 1, 1, what), dues[what]);
            }
        }
        e.due("as told it stays", x.light(0, 0, 0, 0), 6);
        e.due("as told he stays", x.man(0, 0, 0, 0), 0);
        e.says("each so that WAY is n or less");
        for (int what = 0; what < 5; what++) {
            e.due("own CELL in 0 hours", helpsOf("ship 0 0 9 0;plain 9;", 0, 0, what), 0);
            e.due("the next in 0 hours", helpsOf("ship 0 0 9 0;plain 9;", 1, 0, what), NONE);
            e.due("the next in 1 hour", helpsOf("ship 0 0 9 0;plain 9;", 1, 1, what), 0);
        }
        // as told it takes 60 hours, and 14 with a CAPTAIN who always means ill
        int[] in60 = {1, 1, 0, 0, 0};
        // from hour 1 on the walls open an hour sooner
        int[] in59 = {NONE, 1, NONE, 1, NONE};
        for (int what = 0; what < 5; what++) {
            e.due("in 60 hours, what " + what, helpsOf(FAR, 63, 60, what), in60[what]);
            e.due("in 59 hours, what " + what, helpsOf(FAR, 63, 59, what), in59[what]);
        }
        e.due("in 14 hours: ILL", helpsOf(FAR, 63, 14, 1), 1);
        e.due("in 13 hours: ILL", helpsOf(FAR, 63, 13, 1), NONE);
    }

    private void taken() {
        e.says("TAKEN: the fewest of its MEN (bits; of several the least) who alone are aboard, so that WAY is n or less");
        e.due("no MEN", helpsOf("ship 0 0 0 0;", 1, 1, 0), 0);
        e.due("none", helpsOf("ship 0 0 0 0;plain 9;", 1, 1, 0), 0);
        String men = "ship 0 0 0 0;plain 1;plain 1;plain 1;plain 1;";
        int[] dues = {0, 1, 3, 7, 15, NONE};
        for (int limit = 1; limit <= 5; limit++) {
            e.due("LIMIT " + limit, helpsOf(ROCKS + "limit " + limit + ";" + men, 1, 1, 0), dues[limit]);
        }
        e.due("the last alone", helpsOf(ROCKS + "limit 2;ship 0 0 0 0;plain 1;plain 1;plain 1;plain 2;", 1, 1, 0), 8);
        e.due("of several the least", helpsOf(ROCKS + "limit 2;ship 0 0 0 0;plain 1;plain 2;plain 2;", 1, 1, 0), 2);
        e.due("of couples the least", helpsOf(ROCKS + "limit 3;ship 0 0 0 0;plain 1;plain 1;plain 2;plain 2;", 1, 1, 0), 5);
        e.due("without all he could do without", helpsOf(GUARDED + "limit 5;ship 0 0 0 0;plain 9;plain 9;", 1, 1, 0), 0);
        // one who means 0 would make it FLICKER: two hours on ROCKS are STEADY
        e.due("not who makes it FLICKER", helpsOf(ROCKS + "rock 1 1;ship 0 0 0 0;plain 0;plain 1;", 3, 2, 0), 2);
        e.due("by none", helpsOf(GUARDED + "ship 0 0 1 0;plain 0;", 1, 60, 0), 1);
        e.due("by none", helpsOf(GUARDED + "ship 0 0 1 0;plain 1;", 1, 60, 0), NONE);
    }

    private void hiredWithoutCaptain() {
        e.says("(HIRED ones mean 0 without the CAPTAIN)");
        // 1 of CARGO: STEADY without MEN; a HIRED one alone means 0, so it FLICKERS
        e.due("the HIRED one alone", helpsOf(LIT_THEN_DARK + "ship 0 0 1 0;plain 3;hired;", 2, 2, 0), 2);
        e.due("with the CAPTAIN he means ill", helpsOf(ROCKS + "limit 4;ship 0 0 0 0;plain 2;hired;", 1, 1, 0), 3);
        e.due("two HIRED ones are nothing without him", helpsOf(ROCKS + "limit 6;ship 0 0 0 0;plain 3;hired;hired;", 1, 1, 0), 3);
        e.due("none is CAPTAIN in his place", helpsOf(ROCKS + "limit 6;ship 0 0 0 0;asleep;plain 3;hired;hired;", 1, 1, 0), NONE);
    }

    private void ill() {
        e.says("ILL: the least m, 0 .. 9, that the CAPTAIN is to mean, being PLAIN");
        for (int limit = 1; limit <= 20; limit++) {
            int due = limit <= 9 ? limit : NONE;
            e.due("LIMIT " + limit, helpsOf(ROCKS + "limit " + limit + ";ship 0 0 0 0;plain 0;", 1, 1, 1), due);
            int half = (limit + 1) / 2;
            e.due("with a HIRED one, LIMIT " + limit, helpsOf(ROCKS + "limit " + limit + ";ship 0 0 0 0;late 0 0;hired;", 1, 1, 1),
                half <= 9 ? half : NONE);
        }
        e.due("0 is enough", helpsOf(GUARDED + "ship 0 0 0 0;plain 9;", 1, 1, 1), 0);
        e.due("one ASLEEP wakes", helpsOf(LIT_THEN_DARK + "ship 0 0 1 0;asleep;", 2, 2, 1), 0);
        e.due("he is no longer LATE", helpsOf(ROCKS + "rock 1 1;ship 0 0 0 0;late 9 1;", 3, 2, 1), 1);
        e.due("0 would make it FLICKER", helpsOf(ROCKS + "rock 1 1;ship 0 0 9 0;plain 0;", 3, 2, 1), 1);
        e.due("no CAPTAIN", helpsOf("ship 0 0 0 0;", 0, 60, 1), NONE);
    }

    private void thrown() {
        e.says("THROWN: how much CARGO is to be thrown out at least");
        for (int limit = 1; limit <= 10; limit++) {
            e.due("9 of CARGO, LIMIT " + limit, helpsOf(GUARDED + "limit " + limit + ";ship 0 0 9 0;", 1, 1, 2), 10 - limit);
        }
        e.due("no CARGO", helpsOf("ship 0 0 0 0;", 1, 1, 2), 0);
        e.due("all is not enough", helpsOf(GUARDED + "ship 0 0 9 0;plain 1;", 1, 60, 2), NONE);
        e.due("none helps", helpsOf(ROCKS + "limit 9;ship 0 0 8 0;", 1, 60, 2), NONE);
        e.due("who is LOYAL to it means less", helpsOf(GUARDED + "limit 8;ship 0 0 4 0;loyal 0;", 1, 1, 2), 1);
        e.due("who is LOYAL to another does not", helpsOf(GUARDED + "limit 8;ship 0 0 4 0;loyal 1;ship 0 0 4 0;", 1, 1, 2), 1);
        e.due("who is LOYAL to another does not", helpsOf(GUARDED + "limit 5;ship 0 0 4 0;loyal 1;ship 0 0 4 0;", 1, 1, 2), 4);
        e.due("who is LOYAL to it", helpsOf(GUARDED + "limit 5;ship 0 0 4 0;loyal 0;", 1, 1, 2), 2);
    }

    private void leave() {
        e.says("LEAVE: the first hour, 0 to 23, at which it is to begin (waiting is no part of WAY)");
        for (int h = 0; h <= 23; h++) {
            e.due("dark from hour " + h + " on", helpsOf(GUARDED + "ship 0 0 0 0;late 1 " + h + ";", 1, 1, 3), h);
        }
        e.due("with an hour to wait, at 22", helpsOf(GUARDED + "ship 0 0 0 0;late 1 23;", 1, 2, 3), 22);
        e.due("with all hours to wait, at 0", helpsOf(GUARDED + "ship 0 0 0 0;late 1 23;", 1, 24, 3), 0);
        e.due("one less", helpsOf(GUARDED + "ship 0 0 0 0;late 1 23;", 1, 23, 3), 1);
        // lit in hour 0 alone, and the ROCKS two steps off: it begins in hour 23
        e.due("behind hour 23 comes hour 0", helpsOf("size 3 2;rock 2 0;rock 2 1;ship 0 0 0 0;late 1 1;", 2, 2, 3), 23);
        e.due("by none", helpsOf(GUARDED + "ship 0 0 1 0;", 1, 60, 3), NONE);
    }

    private void lulled() {
        e.says("LULLED: the fewest of its MEN (bits; of several the least) who are to be put to sleep (ASLEEP then; all stay aboard)");
        e.due("no MEN", helpsOf("ship 0 0 0 0;", 1, 1, 4), 0);
        e.due("none", helpsOf("ship 0 0 0 0;plain 9;", 1, 1, 4), 0);
        String men = "ship 0 0 0 0;plain 1;plain 1;plain 1;plain 1;";
        int[] dues = {NONE, 15, 7, 3, 1, 0};
        for (int limit = 1; limit <= 5; limit++) {
            e.due("LIMIT " + limit, helpsOf(GUARDED + "limit " + limit + ";" + men, 1, 1, 4), dues[limit]);
        }
        e.due("the last alone", helpsOf(GUARDED + "limit 4;ship 0 0 0 0;plain 1;plain 1;plain 1;plain 2;", 1, 1, 4), 8);
        e.due("of several the least", helpsOf(GUARDED + "limit 5;ship 0 0 0 0;plain 1;plain 2;plain 2;plain 1;", 1, 1, 4), 2);
        e.due("of couples the least", helpsOf(GUARDED + "limit 4;ship 0 0 0 0;plain 1;plain 1;plain 2;plain 2;", 1, 1, 4), 5);
        e.due("he makes it FLICKER no more", helpsOf(ROCKS + "rock 1 1;ship 0 0 0 0;plain 1;plain 0;", 3, 2, 4), 2);
        e.due("HIRED by one ASLEEP makes it FLICKER", helpsOf(LIT_THEN_DARK + "ship 0 0 1 0;plain 3;hired;", 2, 2, 4), 1);
        e.due("by none", helpsOf(GUARDED + "ship 0 0 1 0;plain 1;", 1, 60, 4), NONE);
    }

    private void kindly() {
        e.says("KINDLY: FREE, if the LAMP burnt for all, always");
        String rocks = "size 3 2;rock 1 0;rock 1 1;ship 0 0 0 0;";
        e.due("ROCKS are nothing", Check.coast(rocks).free(0, 0, 60, 1), 6);
        e.due("in 0 hours", Check.coast(rocks).free(0, 0, 0, 1), 1);
        e.due("in 1 hour", Check.coast(rocks).free(0, 0, 1, 1), 3);
        e.due("GUARDS are all", Check.coast(GUARDED + "ship 0 0 0 0;").free(0, 0, 60, 1), 1);
        e.due("in odd hours too", Check.coast(rocks + "plain 0;").free(0, 0, 3, 1), 6);
        e.due("in its RANGE", Check.coast("size 2 2;guard 0 0 7;ship 0 0 0 0;").free(0, 0, 60, 1), 1);
    }

    private void honest() {
        e.says("HONEST: if it burnt for none");
        String guards = "size 3 2;guard 1 0 7;ship 0 0 9 0;";
        e.due("GUARDS are nothing", Check.coast(guards).free(0, 0, 60, 2), 6);
        e.due("in 0 hours", Check.coast(guards).free(0, 0, 0, 2), 1);
        e.due("in 1 hour", Check.coast(guards).free(0, 0, 1, 2), 3);
        e.due("ROCKS are all", Check.coast(ROCKS + "ship 0 0 9 0;").free(0, 0, 60, 2), 1);
        e.due("on a ROCK", Check.coast("size 2 2;rock 0 0;ship 0 0 9 0;").free(0, 0, 60, 2), 4);
    }

    private void rows() {
        e.says("ROWS of a COAST: a pirate takes a row, a guard one: the pirate wins as many as there are CELLS without ROCKS in his"
            + " row, if the guard's row is further from it than R, 0 .. 7, else the guard does");
        // alike rows: a couple rests where the guard reaches all, or, with R 7, everywhere
        int[] dues = {0, 0, 0, 0, 16, 32, 48, 64};
        IllLight eight = Check.coast("size 8 8;");
        for (int r = 0; r <= 7; r++) {
            e.due("eight rows, R " + r, eight.rest(0, r, NONE), dues[r]);
        }
        IllLight two = Check.coast("size 8 2;");
        e.due("two rows, R 0", two.rest(0, 0, NONE), 0);
        e.due("two rows, R 1", two.rest(0, 1, NONE), 4);
        // one CELL without a ROCK: the guard rests in its row alone, the pirate anywhere
        for (int cell = 0; cell < 64; cell++) {
            StringBuilder rocks = new StringBuilder("size 8 8;");
            for (int other = 0; other < 64; other++) {
                rocks.append(other == cell ? "" : "rock " + other % 8 + " " + other / 8 + ";");
            }
            IllLight one = Check.coast(rocks.toString());
            e.due("but for CELL " + cell + " all ROCKS", one.rest(0, 0, NONE), 8);
            for (int k = 0; k < 8; k++) {
                e.due("but for CELL " + cell + " all ROCKS, the " + k + "-th", one.rest(0, 0, k), 8 * k + cell / 8);
            }
        }
        // rows of 0, 1 and 2: the guard in row 2 leaves 1 in row 1; there he would rather be in row 1
        IllLight uneven = Check.coast("size 2 3;rock 0 0;rock 1 0;rock 0 1;");
        e.due("uneven rows, R 0", uneven.rest(0, 0, NONE), 0);
        // R 1: from row 1 the guard reaches all; from row 2 too, but for row 0, which is worth nothing; from row 0 not row 2
        e.due("uneven rows, R 1", uneven.rest(0, 1, NONE), 6);
    }

    private void rests() {
        e.says("RESTS: couples of rows (8 times the pirate's, and the guard's) by which neither would do better by another one"
            + " (winning more; losing is 0): how many; the k-th");
        IllLight x = Check.coast("size 2 3;rock 0 0;rock 1 0;rock 0 1;");
        int[] dues = {1, 2, 9, 10, 17, 18};
        for (int k = 0; k < 6; k++) {
            e.due("the " + k + "-th", x.rest(0, 1, k), dues[k]);
        }
        e.due("no further one", x.rest(0, 1, 6), NONE);
        IllLight all = Check.coast("size 8 8;");
        for (int k = 0; k < 64; k++) {
            e.due("all, the " + k + "-th", all.rest(0, 7, k), k);
        }
        e.due("no further one", all.rest(0, 7, 64), NONE);
        e.due("none", all.rest(0, 0, 0), NONE);
        // where nothing is to be won, nobody does better
        IllLight none = Check.coast("size 2 2;rock 0 0;rock 1 0;rock 0 1;rock 1 1;");
        e.due("nothing to win", none.rest(0, 0, NONE), 4);
        e.due("the last", none.rest(0, 0, 3), 9);
        // a row of ROCKS: the guard stays in the other one, the pirate may be in either
        IllLight one = Check.coast("size 2 2;rock 0 0;rock 1 0;");
        e.due("one row to win", one.rest(0, 0, NONE), 2);
        e.due("the first", one.rest(0, 0, 0), 1);
        e.due("the second", one.rest(0, 0, 1), 9);
    }

    private void safest() {
        e.says("SAFEST: the row by which the pirate wins most at least, whatever the guard does, of several the least");
        // the guard may always take the same row: at least the pirate wins 0 by each, so the least row it is
        e.due("R 0", Check.coast("size 8 8;").rest(0, 0, -2), 0);
        e.due("R 7", Check.coast("size 8 8;").rest(0, 7, -2), 0);
        e.due("row 0 is all ROCKS", Check.coast("size 2 2;rock 0 0;rock 1 0;").rest(0, 0, -2), 0);
    }

    private void premiumOf(int n, int p, int worth, long over, long under) {
        IllLight x = new IllLight();
        e.due("premium " + n + " " + p + " " + worth, x.premium(n, p, worth, false), over);
        e.due("premium " + n + " " + p + " " + worth + " under", x.premium(n, p, worth, true), under);
    }

    private void premium() {
        e.says("PREMIUM of n nights, 1 .. 9, struck by p of ten each, 0 .. 10, a worth, 0 .. 99, lost once for all:"
            + " what is to be asked so that nobody wins on the mean, a fraction in least terms");
        premiumOf(1, 1, 1, 1, 10);
        premiumOf(1, 5, 99, 99, 2);
        premiumOf(1, 0, 99, 0, 1);
        premiumOf(9, 0, 99, 0, 1);
        premiumOf(1, 10, 99, 99, 1);
        premiumOf(9, 10, 99, 99, 1);
        premiumOf(9, 10, 0, 0, 1);
        premiumOf(9, 5, 0, 0, 1);
        premiumOf(2, 5, 1, 3, 4);
        premiumOf(3, 1, 1, 271, 1000);
        premiumOf(9, 1, 1, 612579511, 1000000000);
        premiumOf(9, 1, 99, 60645371589L, 1000000000);
        premiumOf(9, 9, 99, 98999999901L, 1000000000);
        premiumOf(9, 5, 1, 511, 512);
        premiumOf(0, 1, 1, NONE, NONE);
        premiumOf(10, 1, 1, NONE, NONE);
        premiumOf(1, -1, 1, NONE, NONE);
        premiumOf(1, 11, 1, NONE, NONE);
        premiumOf(1, 1, -1, NONE, NONE);
        premiumOf(1, 1, 100, NONE, NONE);
    }
}
