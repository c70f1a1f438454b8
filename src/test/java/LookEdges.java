/** Terms 5: HOURS, SHADE, LEAVES, BACK, WATCH, CROSSED, MUTINY of a COAST as told. */
final class LookEdges {
    private static final int NONE = IllLight.NONE;

    private final Edge e;

    LookEdges(Edge edge) {
        e = edge;
    }

    void run() {
        asTold();
        hoursLit();
        longestRow();
        mostHarm();
        steady();
        shade();
        leaves();
        back();
        watch();
        crossed();
        mutiny();
        worst();
    }

    private void asTold() {
        e.says("(Of a COAST as told.)");
        IllLight x = Check.night("size 3 3;rock 1 0;ship 0 0 1 0;plain 1;plain 2;", "throw 0;mean 0 0 3;go 0 2;hour;");
        e.due("a NIGHT has gone by", x.state(0, 0, 4, 0), 1);
        e.due("HOURS", x.hours(0, 0, 4), 24);
        e.due("SHADE", x.shade(0, 0), 0);
        e.due("LEAVES", x.leaves(0, 0, 0, 0), 0xFFFFFF);
        e.due("BACK", x.back(0, 0, 0), 0);
        e.due("MUTINY", x.mutiny(0, 0, 0, false), 2);
    }

    private void hoursLit() {
        e.says("HOURS, 0 to 23, of a SHIP: in which it is LIT, in which it FLICKERS (bits)");
        IllLight x = Check.coast("ship 0 0 1 0;ship 0 0 1 0;plain 0;ship 0 0 0 0;ship 0 0 1 0;late 1 23;");
        int[] lit = {0xFFFFFF, 0x555555, 0, 0x7FFFFF};
        int[] flickers = {0, 0xFFFFFF, 0, 0x800000};
        for (int ship = 0; ship < 4; ship++) {
            e.due("LIT: SHIP " + ship, x.hours(0, ship, 0), lit[ship]);
            e.due("FLICKERS: SHIP " + ship, x.hours(0, ship, 1), flickers[ship]);
        }
        IllLight y = Check.coast("ship 0 0 0 0;late 1 1;ship 0 0 0 0;late 1 0;");
        e.due("in hour 0 alone", y.hours(0, 0, 0), 1);
        e.due("in none", y.hours(0, 1, 0), 0);
    }

    private void longestRow() {
        e.says("the longest row of hours, in 0 to 23, in which it is not LIT");
        e.due("never LIT", Check.coast("ship 0 0 0 0;").hours(0, 0, 2), 24);
        e.due("always LIT", Check.coast("ship 0 0 1 0;").hours(0, 0, 2), 0);
        e.due("LIT in even hours", Check.coast("ship 0 0 1 0;plain 0;").hours(0, 0, 2), 1);
        e.due("LIT in hour 0", Check.coast("ship 0 0 0 0;late 1 1;").hours(0, 0, 2), 23);
        e.due("not LIT in hour 23", Check.coast("ship 0 0 0 0;late 1 23;").hours(0, 0, 2), 1);
        // LIT in hours 0, 2, .., 12: the row begins with hour 13
        e.due("behind hour 12", Check.coast("ship 0 0 0 0;late 1 13;plain 0;").hours(0, 0, 2), 11);
        // LIT in hours 0 and 2
        e.due("a row ends with hour 23", Check.coast("limit 2;ship 0 0 0 0;late 1 4;divided 1;").hours(0, 0, 2), 21);
    }

    private void mostHarm() {
        e.says("the hour of most HARM, of several the least");
        e.due("all alike", Check.coast("ship 0 0 3 0;").hours(0, 0, 3), 0);
        e.due("all 0", Check.coast("ship 0 0 0 9;late 9 3;").hours(0, 0, 3), 0);
        e.due("in even hours", Check.coast("ship 0 0 0 0;divided 2;").hours(0, 0, 3), 0);
        e.due("ahead of hour 1", Check.coast("ship 0 0 0 0;late 2 1;divided 1;").hours(0, 0, 3), 0);
    }

    private void steady() {
        e.says("how many it is STEADY");
        e.due("all", Check.coast("ship 0 0 1 0;").hours(0, 0, 4), 24);
        e.due("none", Check.coast("ship 0 0 1 0;plain 0;").hours(0, 0, 4), 0);
        e.due("dark ones are none", Check.coast("ship 0 0 0 0;plain 0;").hours(0, 0, 4), 0);
        e.due("even ones", Check.coast("ship 0 0 1 0;divided 1;").hours(0, 0, 4), 12);
        e.due("all but the last", Check.coast("ship 0 0 1 0;late 1 23;").hours(0, 0, 4), 23);
    }

    private void shade() {
        e.says("SHADE of a SHIP at its CELL: CELLS in the LAMP's row or column that are further from it, on the same side"
            + " (none, if it is in neither, or at the LAMP)");
        int[][] dues = {
            {0, 0, 0, 0, 0, 0, 0},
            {0, 0, 1, 0, 0, 0, 0},
            {0, 0, 2, 0, 0, 0, 0},
            {0, 1, 0, 3, 2, 1, 0},
            {0, 0, 1, 0, 0, 0, 0},
            {0, 0, 0, 0, 0, 0, 0},
        };
        for (int row = 0; row < 6; row++) {
            for (int column = 0; column < 7; column++) {
                IllLight x = Check.coast("size 7 6;lamp 2 3;ship " + column + " " + row + " 9 0;");
                e.due("at column " + column + ", row " + row, x.shade(0, 0), dues[row][column]);
            }
        }
        e.due("most", Check.coast("size 8 8;ship 1 0 0 0;").shade(0, 0), 6);
        e.due("most, down", Check.coast("size 8 8;ship 0 1 0 0;").shade(0, 0), 6);
        e.due("whoever is there", Check.coast("size 8 8;ship 1 0 0 0;ship 2 0 0 0;").shade(0, 0), 6);
    }

    private void leaves() {
        e.says("LEAVES: all hours, 0 to 23, (bits) at which a SHIP may begin, so that WAY to a CELL is n or less");
        IllLight dark = Check.coast("size 2 2;guard 1 0 0;ship 0 0 0 0;late 1 23;");
        e.due("in hour 23 alone", dark.leaves(0, 0, 1, 1), 0x800000);
        e.due("an hour ahead too", dark.leaves(0, 0, 1, 2), 0xC00000);
        e.due("in all but hour 0", dark.leaves(0, 0, 1, 23), 0xFFFFFE);
        e.due("in all", dark.leaves(0, 0, 1, 24), 0xFFFFFF);
        e.due("in all, n at most", dark.leaves(0, 0, 1, 60), 0xFFFFFF);
        e.due("its own CELL in no hour", dark.leaves(0, 0, 0, 0), 0xFFFFFF);
        e.due("another in no hour", dark.leaves(0, 0, 1, 0), 0);
        IllLight rock = Check.coast("size 3 2;rock 2 0;rock 2 1;ship 0 0 0 0;late 1 1;");
        e.due("behind hour 23 comes hour 0", rock.leaves(0, 0, 2, 2), 0x800000);
        e.due("in none ever", Check.coast("size 2 2;rock 1 0;ship 0 0 0 0;").leaves(0, 0, 1, 60), 0);
    }

    private void back() {
        e.says("BACK: the fewest hours in all, 0 to 60, in which it can have been at a CELL and be at its own again, as in 3.");
        IllLight open = Check.coast("size 8 8;ship 0 0 0 0;");
        e.due("its own CELL", open.back(0, 0, 0), 0);
        e.due("the next", open.back(0, 0, 1), 2);
        e.due("the far corner", open.back(0, 0, 63), 28);
        // the corner opens in hours 24 and 48; from its ROCKS to SHIP 0 it is 11 steps, to SHIP 1 12
        IllLight far = Check.coast("size 8 8;rock 6 7;rock 7 6;ship 2 0 0 0;late 1 1;ship 1 0 0 0;late 1 1;");
        e.due("60 hours", far.back(0, 0, 63), 60);
        e.due("61 hours are too many", far.back(0, 1, 63), NONE);
        e.due("no way there", Check.coast("size 2 2;rock 1 0;ship 0 0 0 0;").back(0, 0, 1), NONE);
        IllLight rock = Check.coast("size 2 2;rock 0 0;ship 0 0 0 0;");
        e.due("a way there, none back", rock.way(0, 0, 1), 1);
        e.due("a way there, none back", rock.back(0, 0, 1), NONE);
        e.due("its own ROCK, in no hour", rock.back(0, 0, 0), 0);
        IllLight guard = Check.coast("size 2 2;guard 0 0 0;ship 0 0 1 0;");
        e.due("back into a RANGE", guard.back(0, 0, 1), NONE);
        e.says("(of all there are; it need not be at the CELL as soon as it can)");
        // lit in hours 0 to 22 the guarded CELL 2 can be come to in hour 23 alone; there in hour 24 it is CAUGHT, so it goes on at once
        IllLight late = Check.coast("size 3 2;guard 2 0 0;ship 0 0 0 0;late 1 23;");
        e.due("there and back", late.back(0, 0, 2), 26);
        // ROCKS between, open in hour 0 and hour 24: there in two hours, but back from there by hour 24 alone
        IllLight walls = Check.coast("size 3 2;rock 1 0;rock 1 1;ship 0 0 0 0;late 1 1;");
        e.due("there as soon as it can", walls.way(0, 0, 2), 2);
        e.due("and back by hour 24", walls.back(0, 0, 2), 26);
        // on its own ROCK it may be at the end of hours 0 and 24 alone
        IllLight own = Check.coast("size 2 2;rock 0 0;ship 0 0 0 0;late 1 1;");
        e.due("its ROCK is lit again in hour 24", own.back(0, 0, 1), 25);
        e.due("however far it was", own.back(0, 0, 3), 25);
    }

    private void watchOf(String coast, int range, int many, int first, int second) {
        IllLight x = Check.coast(coast);
        e.due("RANGE " + range + ": how many", x.watch(0, range, 0), many);
        e.due("RANGE " + range + ": the first", x.watch(0, range, 1), first);
        e.due("RANGE " + range + ": the second", x.watch(0, range, 2), second);
    }

    private static boolean sees(int wide, int range, int from, int to) {
        return Math.abs(from % wide - to % wide) + Math.abs(from / wide - to / wide) <= range;
    }

    /** How many CELLS two GUARDS see at best, and where: every couple is tried. */
    private static int[] bestOfAll(int wide, int high, int range) {
        int[] best = {0, 0, 0};
        for (int a = 0; a < wide * high; a++) {
            for (int b = a + 1; b < wide * high; b++) {
                int many = 0;
                for (int cell = 0; cell < wide * high; cell++) {
                    many += sees(wide, range, a, cell) || sees(wide, range, b, cell) ? 1 : 0;
                }
                best = many > best[0] ? new int[] {many, a, b} : best;
            }
        }
        return best;
    }

    private void watch() {
        e.says("WATCH of a RANGE, 0 to 7: two CELLS, the first one less by number, where two GUARDS would see most CELLS together"
            + " (beside no others); of several the first one, the second one least: how many they see");
        watchOf("size 2 2;", 0, 2, 0, 1);
        watchOf("size 2 2;", 1, 4, 0, 1);
        watchOf("size 2 2;", 7, 4, 0, 1);
        watchOf("size 8 8;", 0, 2, 0, 1);
        watchOf("size 8 8;", 1, 10, 9, 12);
        watchOf("size 8 2;", 7, 16, 0, 1);
        // in 3 by 3 the middle sees 5, but shares 2 with a corner; a corner and the far side share none
        watchOf("size 3 3;", 1, 7, 0, 5);
        watchOf("size 4 2;", 1, 7, 0, 6);
        for (int wide = 2; wide <= 8; wide++) {
            for (int high = 2; high <= 8; high++) {
                for (int range = 0; range <= 7; range++) {
                    int[] best = bestOfAll(wide, high, range);
                    watchOf("size " + wide + " " + high + ";", range, best[0], best[1], best[2]);
                }
            }
        }
        e.due("GUARDS that are there are nothing", Check.coast("size 2 2;guard 0 0 7;").watch(0, 0, 0), 2);
        e.due("ROCKS are CELLS", Check.coast("size 2 2;rock 0 0;").watch(0, 0, 0), 2);
    }

    private void crossed() {
        e.says("CROSSED by a GUARD of that RANGE: the CELL where he would see most ROCKS, of several the least");
        e.due("no ROCKS", Check.coast("size 8 8;").watch(0, 7, 3), 0);
        for (int cell = 0; cell < 64; cell++) {
            e.due("one, RANGE 0", Check.coast("size 8 8;rock " + cell % 8 + " " + cell / 8 + ";").watch(0, 0, 3), cell);
        }
        e.due("one, RANGE 1", Check.coast("size 8 8;rock 7 7;").watch(0, 1, 3), 55);
        e.due("one, RANGE 7: the least in seven steps", Check.coast("size 8 8;rock 7 7;").watch(0, 7, 3), 7);
        e.due("two alike", Check.coast("size 8 8;rock 5 5;rock 2 2;").watch(0, 0, 3), 18);
        e.due("between two", Check.coast("size 8 8;rock 2 0;rock 4 0;").watch(0, 1, 3), 3);
        e.due("no edge is crossed", Check.coast("size 3 3;rock 2 0;rock 0 1;").watch(0, 0, 3), 2);
        e.due("no edge is crossed", Check.coast("size 8 8;rock 7 0;rock 0 1;").watch(0, 1, 3), 0);
        e.due("GUARDS that are there are nothing", Check.coast("size 8 8;guard 7 7 7;rock 0 0;rock 7 7;").watch(0, 0, 3), 0);
    }

    private void mutiny() {
        e.says("MUTINY of a SHIP at an hour: MEN who mean more than the CAPTAIN (bits)");
        IllLight x = Check.coast("ship 0 0 0 0;plain 4;plain 5;plain 4;plain 9;ship 0 0 0 0;plain 0;hired;asleep;plain 0;"
            + "ship 0 0 0 0;late 5 23;plain 1;plain 5;divided 6;ship 0 0 0 0;plain 9;");
        e.due("more, as much, more", x.mutiny(0, 0, 0, false), 10);
        e.due("none means more", x.mutiny(0, 1, 0, false), 0);
        e.due("in hour 0", x.mutiny(0, 2, 0, false), 8);
        e.due("in hour 21", x.mutiny(0, 2, 21, false), 0);
        e.due("in hour 22", x.mutiny(0, 2, 22, false), 8);
        e.due("in hour 23", x.mutiny(0, 2, 23, false), 6);
        e.due("the CAPTAIN alone", x.mutiny(0, 3, 0, false), 0);
        e.due("all but him", Check.coast("ship 0 0 0 0;asleep;plain 1;plain 1;plain 1;").mutiny(0, 0, 0, false), 14);
    }

    private void worst() {
        e.says("WORST: who means most (of several the least)");
        IllLight x = Check.coast("ship 0 0 0 0;plain 4;plain 5;plain 5;plain 3;ship 0 0 0 0;asleep;asleep;"
            + "ship 0 0 0 0;plain 1;plain 2;plain 3;plain 4;ship 0 0 0 0;late 3 23;plain 2;");
        e.due("of several the least", x.mutiny(0, 0, 0, true), 1);
        e.due("all alike", x.mutiny(0, 1, 0, true), 0);
        e.due("the last", x.mutiny(0, 2, 0, true), 3);
        e.due("in hour 22", x.mutiny(0, 3, 22, true), 0);
        e.due("in hour 23", x.mutiny(0, 3, 23, true), 1);
    }
}
