/** Terms 2, and DRAWN of terms 4: HARM, light, what a NIGHT does. */
final class NightEdges {
    private static final int NONE = IllLight.NONE;

    private final Edge e;

    NightEdges(Edge edge) {
        e = edge;
    }

    void run() {
        harm();
        dark();
        lit();
        begins();
        go();
        onceAnHour();
        mean();
        throwOut();
        upTo23();
        beamOnAll();
        between();
        struckAndCaught();
        lost();
        cantBe();
        stop();
        states();
        drawnNumbers();
        drawnDeeds();
        drawnIfItMay();
    }

    private int harmOf(int cargo, int children, String men) {
        return Check.coast("ship 0 0 " + cargo + " " + children + ";" + men).light(0, 0, 0, 0);
    }

    private void harm() {
        e.says("HARM of a SHIP at an hour: what its MEN mean, together, and CARGO, less 2 for each of CHILDREN; 0 at least");
        e.due("nothing aboard", harmOf(0, 0, ""), 0);
        e.due("most", harmOf(9, 0, Check.times(4, "plain 9;")), 45);
        e.due("most and CHILDREN", harmOf(9, 9, Check.times(4, "plain 9;")), 27);
        e.due("one above 0", harmOf(3, 1, ""), 1);
        e.due("just 0", harmOf(2, 1, ""), 0);
        e.due("below 0 is 0", harmOf(1, 1, ""), 0);
        e.due("far below 0 is 0", harmOf(0, 9, ""), 0);
        e.due("far below 0 is 0, with MEN", harmOf(0, 9, "plain 9;plain 8;"), 0);
        e.due("CHILDREN against MEN", harmOf(0, 9, "plain 9;plain 9;plain 1;"), 1);
    }

    private int glowOf(String text, int hour) {
        return Check.coast(text).light(0, 0, hour, 1);
    }

    private void dark() {
        e.says("It is DARK (0), if HARM is below LIMIT; else it FLICKERS (1), if there is a MAN who is not ASLEEP and means 0;"
            + " else it is STEADY (2)");
        e.due("one below LIMIT", glowOf("limit 5;ship 0 0 4 0;", 0), 0);
        e.due("at LIMIT", glowOf("limit 5;ship 0 0 5 0;", 0), 2);
        e.due("one below the highest LIMIT", glowOf("limit 20;ship 0 0 9 0;plain 9;plain 1;", 0), 0);
        e.due("at the highest LIMIT", glowOf("limit 20;ship 0 0 9 0;plain 9;plain 2;", 0), 2);
        e.due("HARM 0 is below every LIMIT", glowOf("limit 1;ship 0 0 0 0;", 0), 0);
        e.due("DARK, though one means 0", glowOf("limit 5;ship 0 0 4 0;plain 0;", 0), 0);
        e.due("no MEN: STEADY", glowOf("ship 0 0 1 0;", 0), 2);
        e.due("one who means 0", glowOf("ship 0 0 1 0;plain 0;", 0), 1);
        e.due("the last one means 0", glowOf("ship 0 0 1 0;plain 1;plain 1;plain 1;plain 0;", 0), 1);
        e.due("one ASLEEP", glowOf("ship 0 0 1 0;asleep;", 0), 2);
        e.due("all ASLEEP", glowOf("ship 0 0 1 0;asleep;asleep;asleep;asleep;", 0), 2);
        e.due("HIRED by one ASLEEP", glowOf("ship 0 0 1 0;asleep;hired;", 0), 1);
        e.due("a HIRED CAPTAIN", glowOf("ship 0 0 1 0;hired;", 0), 1);
        e.due("LATE, ahead of his hour", glowOf("ship 0 0 1 0;late 1 3;", 2), 2);
        e.due("LATE, at his hour", glowOf("ship 0 0 1 0;late 1 3;", 3), 1);
        e.due("DIVIDED, in an even hour", glowOf("ship 0 0 1 0;divided 1;", 22), 2);
        e.due("DIVIDED, in an odd hour", glowOf("ship 0 0 1 0;divided 1;", 23), 1);
        e.due("LOYAL to no CARGO", glowOf("ship 0 0 1 0;loyal 1;ship 0 0 0 0;", 0), 1);
        e.due("LOYAL to some", glowOf("ship 0 0 1 0;loyal 1;ship 0 0 1 0;", 0), 2);
    }

    private void lit() {
        e.says("It is LIT in all hours, if STEADY, in even ones, if it FLICKERS, in none, if DARK");
        IllLight x = Check.coast("ship 0 0 1 0;plain 1;ship 0 0 1 0;plain 0;ship 0 0 0 0;plain 0;");
        for (int hour = 0; hour < 24; hour++) {
            e.due("STEADY in hour " + hour, x.light(0, 0, hour, 2), 1);
            e.due("FLICKERS in hour " + hour, x.light(0, 1, hour, 2), hour % 2 == 0 ? 1 : 0);
            e.due("DARK in hour " + hour, x.light(0, 2, hour, 2), 0);
        }
    }

    private void begins() {
        e.says("A NIGHT begins at hour 0 with all as told");
        IllLight x = Check.night("size 3 4;ship 2 3 7 1;plain 4;late 2 0;", "go 0 0;throw 0;mean 0 0 1;hour;");
        int[] whats = {0, 1, 2, 10, 20, 30, 40, 50, 51};
        int[] dues = {0, 0, 0, 11, 7, 9, 1, 4, 0};
        e.due("another STATE is looked at", x.state(0, 0, 4, 0), 1);
        for (int k = 0; k < whats.length; k++) {
            e.due("state " + whats[k], x.state(0, 0, 0, whats[k]), dues[k]);
        }
        e.due("as told it stays", x.coast(0, 40), 7);
        e.due("as told it stays", x.coast(0, 30), 11);
        e.due("as told he stays", x.man(0, 0, 0, 1), 4);
    }

    private void go() {
        e.says("go: a SHIP goes to the next CELL in a direction");
        for (int[] size : new int[][] {{2, 2}, {3, 5}, {8, 8}}) {
            int wide = size[0];
            int high = size[1];
            for (int cell = 0; cell < wide * high; cell++) {
                int column = cell % wide;
                int row = cell / wide;
                String coast = "size " + wide + " " + high + ";ship " + column + " " + row + " 0 0;";
                int[] dues = {row > 0 ? cell - wide : NONE, column < wide - 1 ? cell + 1 : NONE,
                    row < high - 1 ? cell + wide : NONE, column > 0 ? cell - 1 : NONE};
                for (int direction = 0; direction < 4; direction++) {
                    IllLight x = Check.night(coast, "go 0 " + direction + ";");
                    boolean can = dues[direction] != NONE;
                    e.due("from CELL " + cell + " in direction " + direction, x.stop(0, 0), can ? 1 : 0);
                    e.due("from CELL " + cell + " in direction " + direction, x.state(0, 0, 1, 10), can ? dues[direction] : -2);
                }
            }
        }
    }

    private static int stopOf(String coast, String deeds) {
        return Check.night(coast, deeds).stop(0, 0);
    }

    private void onceAnHour() {
        e.says("once an hour at most");
        String two = "size 4 4;ship 0 0 1 0;plain 1;ship 0 0 1 0;";
        e.due("twice in hour 0", stopOf(two, "go 0 1;go 0 1;"), 1);
        e.due("there and back", stopOf(two, "go 0 1;go 0 3;"), 1);
        e.due("the other one too", stopOf(two, "go 0 1;go 1 1;"), 2);
        e.due("but not the other one twice", stopOf(two, "go 0 1;go 1 1;go 1 1;"), 2);
        e.due("nor the first one again", stopOf(two, "go 0 1;go 1 1;go 0 1;"), 2);
        e.due("once in each hour", stopOf(two, "go 0 1;hour;go 0 1;hour;go 0 1;"), 5);
        e.due("twice in hour 1", stopOf(two, "hour;go 0 1;go 0 1;"), 2);
        e.due("other DEEDS between don't help", stopOf(two, "go 0 1;mean 0 0 2;throw 0;go 0 1;"), 3);
        e.due("in hour 23 too", stopOf(two, Check.times(23, "hour;") + "go 0 1;go 0 1;"), 24);
    }

    private void mean() {
        e.says("mean: a MAN is PLAIN m from now on");
        IllLight x = Check.night("limit 2;ship 0 0 2 0;late 5 1;hired;asleep;divided 3;",
            "mean 0 0 0;mean 0 0 9;hour;mean 0 2 0;mean 0 3 4;mean 0 1 7;hour;hour;");
        e.due("ahead of it", x.state(0, 0, 0, 50), 5);
        e.due("0 at least", x.state(0, 0, 1, 50), 0);
        e.due("the HIRED one with him", x.state(0, 0, 1, 51), 0);
        e.due("9 at most", x.state(0, 0, 2, 50), 9);
        e.due("the HIRED one with him", x.state(0, 0, 2, 51), 9);
        e.due("no longer LATE", x.state(0, 0, 3, 50), 9);
        e.due("one is ASLEEP, so it is STEADY", x.state(0, 0, 2, 40), 1);
        e.due("no longer DIVIDED", x.state(0, 0, 5, 53), 4);
        e.due("no longer HIRED", x.state(0, 0, 6, 51), 7);
        e.due("the CAPTAIN is as he was", x.state(0, 0, 6, 50), 9);
        e.due("one woken means 0 and makes it FLICKER", x.state(0, 0, 6, 40), 0);
        e.due("so in hour 2 it is LIT", x.state(0, 0, 7, 40), 1);
        e.due("in hour 3 not", x.state(0, 0, 8, 40), 0);
        e.due("in hour 3 all mean as they did", x.state(0, 0, 8, 30), 22);
    }

    private void throwOut() {
        e.says("throw: 1 of CARGO, if there is any");
        IllLight x = Check.night("ship 0 0 9 0;ship 0 0 0 0;loyal 0;", Check.times(10, "throw 0;"));
        for (int n = 0; n <= 9; n++) {
            e.due("CARGO behind " + n, x.state(0, 0, n, 20), 9 - n);
            e.due("HARM behind " + n, x.state(0, 0, n, 30), 9 - n);
            e.due("who is LOYAL to it, behind " + n, x.state(0, 0, n, 54), 9 - n);
        }
        e.due("none is left for the tenth", x.stop(0, 0), 9);
        e.due("none at all", stopOf("ship 0 0 0 0;", "throw 0;"), 0);
        e.due("several in one hour", stopOf("ship 0 0 2 0;", "throw 0;throw 0;hour;"), 3);
    }

    private void upTo23() {
        e.says("hour (up to 23)");
        IllLight x = Check.night("ship 0 0 0 0;", Check.times(24, "hour;"));
        for (int n = 0; n <= 23; n++) {
            e.due("behind " + n, x.state(0, 0, n, 0), n);
        }
        e.due("no hour behind 23", x.stop(0, 0), 23);
        e.due("no STATE behind it", x.state(0, 0, 24, 0), -2);
        e.due("other DEEDS in hour 23", stopOf("ship 0 0 1 0;plain 1;", Check.times(23, "hour;") + "go 0 1;throw 0;mean 0 0 3;hour;"), 26);
        e.due("without SHIPS as well", stopOf("", Check.times(24, "hour;")), 23);
    }

    private static int beamOn(String ships, int ship) {
        return Check.night("size 7 7;lamp 3 3;" + ships, "").state(0, 0, 0, 40 + ship);
    }

    private void beamOnAll() {
        e.says("the BEAM falls on all SHIPS that are left");
        IllLight x = Check.night("size 7 7;lamp 3 3;rock 0 0;guard 6 6 0;ship 0 0 0 0;ship 6 6 1 0;ship 0 6 1 0;ship 6 0 0 0;", "hour;");
        int[] ahead = {0, 1, 1, 0};
        int[] behind = {0, 0, 1, 0};
        for (int ship = 0; ship < 4; ship++) {
            e.due("ahead of the hour on SHIP " + ship, x.state(0, 0, 0, 40 + ship), ahead[ship]);
            e.due("behind it on SHIP " + ship, x.state(0, 0, 1, 40 + ship), behind[ship]);
        }
    }

    private void between() {
        e.says("one that is in the LAMP's row or column, another one being between (in that row or column, nearer to the LAMP,"
            + " on the same side of it, not at its CELL), is LIT if that one of those between which is nearest to the LAMP"
            + " (of several the least) is so by itself; all others, if they are so by themselves");
        String lit = " 1 0;";
        String dark = " 0 0;";
        int[][] ends = {{3, 0}, {6, 3}, {3, 6}, {0, 3}};
        int[][] nexts = {{3, 1}, {5, 3}, {3, 5}, {1, 3}};
        int[][] nearest = {{3, 2}, {4, 3}, {3, 4}, {2, 3}};
        for (int side = 0; side < 4; side++) {
            String end = "ship " + ends[side][0] + " " + ends[side][1];
            String next = "ship " + nexts[side][0] + " " + nexts[side][1];
            String near = "ship " + nearest[side][0] + " " + nearest[side][1];
            String across = "ship " + nearest[(side + 2) % 4][0] + " " + nearest[(side + 2) % 4][1];
            String beside = "ship " + nearest[(side + 1) % 4][0] + " " + nearest[(side + 1) % 4][1];
            e.due("none between", beamOn(end + lit, 0), 1);
            e.due("a dark one between", beamOn(end + lit + next + dark, 0), 0);
            e.due("a lit one between", beamOn(end + dark + next + lit, 0), 1);
            e.due("the one between is by itself", beamOn(end + lit + next + dark, 1), 0);
            e.due("the one between is by itself", beamOn(end + dark + next + lit, 1), 1);
            e.due("the nearest counts", beamOn(end + lit + next + lit + near + dark, 0), 0);
            e.due("the nearest counts", beamOn(end + lit + near + dark + next + lit, 0), 0);
            e.due("the nearest counts", beamOn(end + dark + next + dark + near + lit, 0), 1);
            e.due("for the middle one too", beamOn(end + dark + next + dark + near + lit, 1), 1);
            e.due("of several the least", beamOn(end + dark + near + lit + near + dark, 0), 1);
            e.due("of several the least", beamOn(end + lit + near + dark + near + lit, 0), 0);
            e.due("whatever its number", beamOn(near + dark + end + lit, 1), 0);
            e.due("whatever its number", beamOn(near + lit + end + dark, 1), 1);
            for (int ship = 0; ship < 4; ship++) {
                e.due("four in a line", beamOn(end + lit + near + dark + next + lit + next + lit, ship), 0);
                e.due("four in a line", beamOn(next + dark + next + dark + end + dark + near + lit, ship), 1);
            }
            e.due("on the other side", beamOn(end + lit + across + dark, 0), 1);
            e.due("in the column, not the row", beamOn(end + lit + beside + dark, 0), 1);
            e.due("at the LAMP's CELL", beamOn(end + lit + "ship 3 3" + dark, 0), 1);
            e.due("at the LAMP's CELL and one between", beamOn(end + dark + "ship 3 3" + dark + near + lit, 0), 1);
            e.due("at its own CELL", beamOn(end + lit + end + dark, 0), 1);
            e.due("at its own CELL", beamOn(end + lit + end + dark, 1), 0);
            e.due("further from the LAMP", beamOn(next + lit + end + dark, 0), 1);
        }
        e.due("itself at the LAMP's CELL", beamOn("ship 3 3" + lit + "ship 4 3" + dark, 0), 1);
        e.due("in neither row nor column", beamOn("ship 6 4" + lit + "ship 5 4" + dark, 0), 1);
        e.due("in neither row nor column", beamOn("ship 4 6" + lit + "ship 4 5" + dark, 0), 1);
        e.due("in neither, on a slope", beamOn("ship 5 5" + lit + "ship 4 4" + dark, 0), 1);
        // SHIP 1 between flickers: it shines on SHIP 0, which is dark, in even hours
        IllLight x = Check.night("ship 4 0 0 0;ship 2 0 1 0;plain 0;", "hour;hour;");
        int[] byHour = {1, 0, 1};
        for (int n = 0; n < 3; n++) {
            e.due("by the other's hours, in hour " + n, x.state(0, 0, n, 40), byHour[n]);
        }
        IllLight y = Check.night("rock 2 0;ship 4 0 1 0;ship 2 0 0 0;", "hour;");
        e.due("while it is between", y.state(0, 0, 0, 40), 0);
        e.due("one that is lost is not between", y.state(0, 0, 1, 40), 1);
    }

    /** Of a SHIP with HARM 1 or 0 at a CELL: 1 if it is STRUCK at the end of hour 0, 2 if CAUGHT. */
    private static int lossAt(String coast, int column, int row, int cargo) {
        IllLight x = Check.night(coast + "ship " + column + " " + row + " " + cargo + " 0;", "hour;");
        return x.state(0, 0, 1, 1) + 2 * x.state(0, 0, 1, 2);
    }

    private void struckAndCaught() {
        e.says("Then a SHIP on a ROCK that is not LIT is STRUCK");
        e.due("dark on a ROCK", lossAt("rock 2 2;", 2, 2, 0), 1);
        e.due("lit on a ROCK", lossAt("rock 2 2;", 2, 2, 1), 0);
        e.due("dark beside a ROCK", lossAt("rock 2 2;", 3, 2, 0), 0);
        e.due("dark on a guarded ROCK", lossAt("rock 2 2;guard 2 2 7;", 2, 2, 0), 1);
        e.due("on the last CELL", lossAt("size 8 8;rock 7 7;", 7, 7, 0), 1);
        e.due("on the first CELL", lossAt("size 8 8;rock 0 0;", 0, 0, 0), 1);
        // the light in an hour is that of the beam at its end: SHIP 1 is struck then, and shades SHIP 0 all the same
        IllLight x = Check.night("rock 2 0;rock 4 0;ship 4 0 1 0;ship 2 0 0 0;", "hour;");
        e.due("both at once", x.state(0, 0, 1, 1), 3);
        IllLight y = Check.night("rock 0 0;ship 0 0 1 0;plain 0;", "hour;hour;");
        e.due("it FLICKERS: not in hour 0", y.state(0, 0, 1, 1), 0);
        e.due("it FLICKERS: in hour 1", y.state(0, 0, 2, 1), 1);
        e.says("one that is LIT and in the RANGE of a GUARD (columns and rows together) CAUGHT");
        for (int range = 0; range <= 7; range++) {
            String coast = "size 8 8;guard 3 4 " + range + ";";
            for (int cell = 0; cell < 64; cell++) {
                int far = Math.abs(cell % 8 - 3) + Math.abs(cell / 8 - 4);
                e.due("RANGE " + range + " to CELL " + cell, lossAt(coast, cell % 8, cell / 8, 1), far <= range ? 2 : 0);
            }
        }
        e.due("dark in its RANGE", lossAt("guard 2 2 7;", 2, 2, 0), 0);
        e.due("by the fourth GUARD", lossAt("guard 0 0 0;guard 0 5 0;guard 5 0 0;guard 2 2 1;", 2, 3, 1), 2);
        e.due("lit on a guarded ROCK", lossAt("rock 2 2;guard 2 2 0;", 2, 2, 1), 2);
        IllLight z = Check.night("guard 4 0 0;ship 4 0 0 0;ship 2 0 1 0;", "hour;");
        e.due("LIT by another's light", z.state(0, 0, 1, 2), 1);
    }

    private void lost() {
        e.says("these are lost (and at no CELL); it is the next hour");
        IllLight x = Check.night("rock 0 0;guard 5 5 0;ship 0 0 0 0;plain 0;ship 5 5 4 0;plain 2;ship 1 1 0 0;", "hour;hour;");
        for (int n = 1; n <= 2; n++) {
            e.due("the hour", x.state(0, 0, n, 0), n);
            e.due("STRUCK", x.state(0, 0, n, 1), 1);
            e.due("CAUGHT", x.state(0, 0, n, 2), 2);
            e.due("at no CELL", x.state(0, 0, n, 10), NONE);
            e.due("at no CELL", x.state(0, 0, n, 11), NONE);
            e.due("the other is at its CELL", x.state(0, 0, n, 12), 7);
            e.due("CARGO", x.state(0, 0, n, 21), 4);
        }
        // it is CAUGHT on a ROCK in hour 0, and not STRUCK there in hour 1
        IllLight once = Check.night("rock 1 0;guard 1 0 0;ship 1 0 1 0;plain 0;", "hour;hour;");
        e.due("lost once", once.state(0, 0, 2, 2), 1);
        e.due("lost once", once.state(0, 0, 2, 1), 0);
        // three are CAUGHT together, the fourth is STRUCK then; in hour 1 another would be CAUGHT
        IllLight many = Check.night("guard 0 1 0;guard 1 1 0;guard 2 1 0;rock 3 1;ship 0 1 1 0;ship 1 1 1 0;ship 2 1 1 0;ship 3 1 0 0;",
            "hour;");
        e.due("CAUGHT together", many.state(0, 0, 1, 2), 7);
        e.due("STRUCK beside", many.state(0, 0, 1, 1), 8);
        IllLight apart = Check.night("guard 1 1 0;rock 2 2;rock 3 3;ship 1 1 1 0;ship 1 0 1 0;ship 2 1 0 0;ship 3 2 0 0;",
            "go 2 2;hour;go 1 2;hour;go 3 2;hour;");
        int[] caught = {0, 1, 3, 3};
        int[] struck = {0, 4, 4, 12};
        for (int hour = 0; hour <= 3; hour++) {
            e.due("CAUGHT by hour " + hour, apart.state(0, 0, 2 * hour, 2), caught[hour]);
            e.due("STRUCK by hour " + hour, apart.state(0, 0, 2 * hour, 1), struck[hour]);
        }
        IllLight all = Check.night("rock 0 0;ship 0 0 0 0;", "hour;hour;");
        e.due("an hour passes though all are lost", all.stop(0, 0), 2);
    }

    private void cantBe() {
        e.says("A DEED can't be, if there is no such SHIP, MAN, CELL, the SHIP is lost, or it is not as said");
        String coast = "size 2 2;rock 0 1;guard 1 1 0;ship 0 0 1 0;plain 1;ship 0 1 3 9;plain 0;ship 1 1 1 0;plain 1;";
        for (String deed : new String[] {"go 3 0;", "mean 3 0 1;", "throw 3;"}) {
            e.due("no such SHIP: " + deed, stopOf(coast, deed), 0);
            e.due("no SHIP at all: " + deed, stopOf("", deed), 0);
        }
        e.due("no such MAN", stopOf(coast, "mean 0 1 1;"), 0);
        e.due("no MAN at all", stopOf("ship 0 0 0 0;", "mean 0 0 1;"), 0);
        e.due("the last MAN", stopOf("ship 0 0 0 0;hired;hired;hired;hired;", "mean 0 3 1;"), 1);
        e.due("no such CELL", stopOf(coast, "go 0 0;"), 0);
        for (int ship = 1; ship <= 2; ship++) {
            for (String deed : new String[] {"go " + ship + " 0;", "mean " + ship + " 0 1;", "throw " + ship + ";"}) {
                e.due("lost: " + deed, stopOf(coast, "hour;" + deed), 1);
                e.due("ahead of that: " + deed, stopOf(coast, deed), 1);
            }
        }
        e.due("one that is left goes on", stopOf(coast, "hour;go 0 1;mean 0 0 2;throw 0;"), 4);
        e.due("a second go", stopOf(coast, "go 0 1;go 0 3;"), 1);
        e.due("a second throw of 1", stopOf(coast, "throw 0;throw 0;"), 1);
    }

    private void stop() {
        e.says("STOP: the first DEED that can't be, else how many there are");
        e.due("no DEEDS", stopOf("ship 0 0 0 0;", ""), 0);
        e.due("the first can't be", stopOf("ship 0 0 0 0;", "go 0 0;hour;"), 0);
        e.due("the last can't be", stopOf("ship 0 0 0 0;", "hour;hour;go 0 0;"), 2);
        e.due("all can be", stopOf("ship 0 0 0 0;", "hour;hour;go 0 1;"), 3);
        e.due("the first of two that can't", stopOf("ship 0 0 0 0;", "hour;go 0 3;go 0 0;"), 1);
        e.due("forty", stopOf("ship 0 0 0 0;plain 1;", Check.times(40, "mean 0 0 2;")), 40);
        e.due("the fortieth can't be", stopOf("ship 0 0 0 0;plain 1;", Check.times(39, "mean 0 0 2;") + "mean 0 1 2;"), 39);
    }

    private void states() {
        e.says("A STATE is behind the first n DEEDS, n up to STOP");
        IllLight x = Check.night("ship 0 0 9 0;", "throw 0;throw 0;go 0 0;throw 0;");
        e.due("n 0", x.state(0, 0, 0, 20), 9);
        e.due("n 1", x.state(0, 0, 1, 20), 8);
        e.due("n at STOP", x.state(0, 0, 2, 20), 7);
        e.due("n behind STOP", x.state(0, 0, 3, 20), -2);
        e.due("n behind STOP", x.state(0, 0, 4, 20), -2);
        e.due("n behind all DEEDS", x.state(0, 0, 5, 20), -2);
        e.due("n below 0", x.state(0, 0, -1, 20), -2);
        IllLight all = Check.night("ship 0 0 9 0;", "throw 0;");
        e.due("n at how many there are", all.state(0, 0, 1, 20), 8);
        e.due("n behind them", all.state(0, 0, 2, 20), -2);
        IllLight shorter = Check.night("ship 0 0 9 0;", "throw 0;throw 0;throw 0;");
        Check.tell(shorter, 1, 0, "throw 0;");
        e.due("told anew, n at how many there are", shorter.state(0, 0, 1, 20), 8);
        e.due("told anew, n behind them", shorter.state(0, 0, 2, 20), -2);
        IllLight full = Check.night("ship 0 0 9 0;plain 1;", Check.times(40, "mean 0 0 2;"));
        e.due("n 40", full.state(0, 0, 40, 50), 2);
        e.due("n 41", full.state(0, 0, 41, 50), -2);
        IllLight none = Check.night("ship 0 0 9 0;", "");
        e.due("no DEEDS: n 0", none.state(0, 0, 0, 20), 9);
        e.due("no DEEDS: n 1", none.state(0, 0, 1, 20), -2);
    }

    /** The numbers that are drawn, by longs: 32 bits are kept, and those from bit 16 on are taken. */
    private static final class Draws {
        private long x;

        Draws(int seed) {
            x = seed & 0xFFFFFFFFL;
        }

        int below(int n) {
            x = (x * 1103515245L + 12345L) & 0xFFFFFFFFL;
            return (int) (x / 65536 % n);
        }
    }

    private void drawnNumbers() {
        e.says("DRAWN by a SEED, x; a number below n is drawn: x becomes x * 1103515245 + 12345 (of 32 bits),"
            + " it is x shifted right by 16 without sign, remainder by n");
        int[] seeds = {0, 1, -1, Integer.MIN_VALUE, Integer.MAX_VALUE, 0x40000000, 12345, -987654321};
        for (int seed : seeds) {
            for (int ships = 1; ships <= 4; ships++) {
                IllLight x = Check.coast("size 3 3;" + Check.times(ships, "ship 1 1 9 0;plain 0;plain 0;plain 0;plain 0;"));
                Draws draws = new Draws(seed);
                int ship = draws.below(ships);
                int number = draws.below(8);
                int[] cells = {1, 5, 7, 3, 4, 4, 4, 4};
                for (int s = 0; s < ships; s++) {
                    e.due("CELL by " + seed, x.drawn(0, seed, 1, 10 + s), s == ship ? cells[number] : 4);
                    e.due("CARGO by " + seed, x.drawn(0, seed, 1, 20 + s), s == ship && number == 5 ? 8 : 9);
                }
                e.due("hour by " + seed, x.drawn(0, seed, 1, 0), number > 5 ? 1 : 0);
            }
        }
    }

    private void drawnDeeds() {
        e.says("n times, 0 to 60: a SHIP, a number below SHIPS, a number below 8: 0 to 3: it goes in that direction;"
            + " 4: mean: a MAN, below 4, m, below 10; 5: throw; 6, 7: hour");
        IllLight x = Check.coast("size 3 3;ship 1 1 9 0;plain 0;plain 0;plain 0;plain 0;");
        int[] cells = {1, 5, 7, 3};
        boolean[] seen = new boolean[8];
        for (int seed = 0; seed < 60; seed++) {
            Draws draws = new Draws(seed);
            draws.below(1);
            int number = draws.below(8);
            if (seen[number]) {
                continue;
            }
            seen[number] = true;
            e.due(number + ": CELL", x.drawn(0, seed, 1, 10), number < 4 ? cells[number] : 4);
            e.due(number + ": CARGO", x.drawn(0, seed, 1, 20), number == 5 ? 8 : 9);
            e.due(number + ": hour", x.drawn(0, seed, 1, 0), number >= 6 ? 1 : 0);
            int man = number == 4 ? draws.below(4) : NONE;
            int m = number == 4 ? draws.below(10) : NONE;
            for (int k = 0; k < 4; k++) {
                e.due(number + ": MAN " + k, x.drawn(0, seed, 1, 50 + k), k == man ? m : 0);
            }
        }
        for (int number = 0; number < 8; number++) {
            e.due(number + " was drawn", seen[number], true);
        }
        e.due("n 0: as told", x.drawn(0, 77, 0, 10), 4);
        e.due("n 0: as told", x.drawn(0, 77, 0, 20), 9);
        e.due("n 0: as told", x.drawn(0, 77, 0, 0), 0);
        e.due("n -1", x.drawn(0, 77, -1, 0), -2);
        e.due("n 61", x.drawn(0, 77, 61, 0), -2);
    }

    /** The line of a NIGHT that stands for what is drawn next. */
    private static String lineDrawn(Draws draws, int ships) {
        int ship = draws.below(ships);
        int number = draws.below(8);
        if (number < 4) {
            return "go " + ship + " " + number + ";";
        }
        if (number == 4) {
            int man = draws.below(4);
            return "mean " + ship + " " + man + " " + draws.below(10) + ";";
        }
        return number == 5 ? "throw " + ship + ";" : "hour;";
    }

    private void drawnIfItMay() {
        e.says("each, if it may");
        String coast = "size 3 2;limit 4;lamp 1 0;rock 0 1;rock 2 0;guard 2 1 0;ship 0 0 2 0;divided 3;hired;"
            + "ship 2 0 1 0;loyal 0;late 5 9;ship 1 1 0 0;";
        for (int seed = 0; seed < 60; seed++) {
            Draws draws = new Draws(seed * 7919 - 100000);
            StringBuilder night = new StringBuilder();
            int deeds = 0;
            int times = 0;
            // what may not be is left out; the NIGHT has room for 40
            while (times < 60 && deeds < 40) {
                String line = lineDrawn(draws, 3);
                times++;
                if (stopOf(coast, night + line) > deeds) {
                    night.append(line);
                    deeds++;
                }
            }
            IllLight x = Check.night(coast, night.toString());
            for (int what = -2; what < 70; what++) {
                e.due(times + " times, what " + what, x.drawn(0, seed * 7919 - 100000, times, what), x.state(0, 0, deeds, what));
            }
        }
        // in a small COAST many may not be; no hour comes behind 23
        boolean late = false;
        IllLight y = Check.coast("size 2 2;ship 0 0 0 0;");
        for (int seed = 0; seed < 400; seed++) {
            Draws draws = new Draws(seed);
            int hours = 0;
            for (int k = 0; k < 60; k++) {
                hours += lineDrawn(draws, 1).equals("hour;") ? 1 : 0;
            }
            late |= hours > 23;
            e.due("hours by " + seed, y.drawn(0, seed, 60, 0), Math.min(hours, 23));
        }
        e.due("one had more than 23", late, true);
    }
}
