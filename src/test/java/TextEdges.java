/** Terms 1: what COASTS, NIGHTS and LOGS have, their texts, and FAULTS. */
final class TextEdges {
    private static final int NONE = IllLight.NONE;
    private static final String SHIP = "ship 0 0 0 0;";
    private static final String[] KINDS = {"plain 1;", "hired;", "late 1 1;", "divided 1;", "asleep;", "loyal 0;"};

    private final Edge e;

    TextEdges(Edge edge) {
        e = edge;
    }

    void run() {
        size();
        cells();
        lamp();
        limit();
        rocks();
        guards();
        ships();
        men();
        plain();
        hired();
        late();
        divided();
        asleep();
        loyal();
        deeds();
        logs();
        tape();
        blanks();
        letters();
        digits();
        coastLines();
        coastNumbers();
        furtherMen();
        nightLines();
        nightNumbers();
        logLines();
        logNumbers();
        laterOnes();
        places();
        noTextGoesOn();
        firstByPlace();
        numbersThatCantBe();
        tooMany();
        aheadOfShips();
        cellsThatAreNotThere();
        shipsThatAreNotThere();
        twoOfASort();
    }

    private void size() {
        e.says("A COAST is WIDE, 2 .. 8, and HIGH, 2 .. 8 (6 each at first)");
        for (int[] size : new int[][] {{2, 2}, {2, 8}, {8, 2}, {8, 8}, {3, 7}}) {
            IllLight x = Check.coast("size " + size[0] + " " + size[1] + ";");
            e.due("WIDE", x.coast(0, 0), size[0]);
            e.due("HIGH", x.coast(0, 1), size[1]);
        }
        IllLight first = Check.coast("");
        e.due("WIDE at first", first.coast(0, 0), 6);
        e.due("HIGH at first", first.coast(0, 1), 6);
        e.fault(0, "size 1 2;", 2, 5);
        e.fault(0, "size 2 1;", 2, 7);
        e.fault(0, "size 0 8;", 2, 5);
        e.fault(0, "size 8 0;", 2, 7);
        e.fault(0, "size 9 8;", 2, 5);
        e.fault(0, "size 8 9;", 2, 7);
    }

    private void cells() {
        e.says("CELLS, numbered WIDE times row and column, row 0 on top");
        IllLight x = Check.coast("size 3 5;ship 0 0 0 0;ship 2 0 0 0;ship 0 1 0 0;ship 2 4 0 0;");
        int[] cells = {0, 2, 3, 14};
        for (int ship = 0; ship < 4; ship++) {
            e.due("CELL of SHIP " + ship, x.coast(0, 30 + ship), cells[ship]);
        }
        e.due("the last CELL", x.coast(0, 114), 0);
        e.due("one behind it", x.coast(0, 115), NONE);
        IllLight most = Check.coast("ship 7 7 0 0;size 8 8;");
        e.due("the last of the most CELLS", most.coast(0, 30), 63);
        e.due("it is there", most.way(0, 0, 63), 0);
        e.due("none is behind it", most.way(0, 0, 64), NONE);
    }

    private void lamp() {
        e.says("a LAMP at a CELL (CELL 0 at first)");
        e.due("at first", Check.coast("").coast(0, 2), 0);
        e.due("at first, of another size", Check.coast("size 2 8;").coast(0, 2), 0);
        e.due("at the last CELL", Check.coast("size 8 8;lamp 7 7;").coast(0, 2), 63);
        e.due("a COAST told anew has it at CELL 0 again", toldAnew("lamp 3 3;", ""), 0);
    }

    private static int toldAnew(String text, String anew) {
        IllLight x = Check.coast(text);
        Check.tell(x, 0, 0, anew);
        return x.coast(0, 2);
    }

    private void limit() {
        e.says("LIMIT, 1 .. 20 (1)");
        e.due("at first", Check.coast("").coast(0, 3), 1);
        e.due("least", Check.coast("limit 1;").coast(0, 3), 1);
        e.due("most", Check.coast("limit 20;").coast(0, 3), 20);
        e.fault(0, "limit 0;", 2, 6);
        e.fault(0, "limit 00;", 2, 6);
        e.fault(0, "limit 21;", 2, 6);
        e.fault(0, "limit 99;", 2, 6);
    }

    private void rocks() {
        e.says("ROCKS, CELLS");
        StringBuilder all = new StringBuilder("size 8 8;");
        for (int cell = 0; cell < 64; cell++) {
            all.append("rock ").append(cell % 8).append(' ').append(cell / 8).append(';');
        }
        IllLight full = Check.coast(all.toString());
        IllLight none = Check.coast("size 8 8;");
        for (int cell = 0; cell < 64; cell++) {
            e.due("a ROCK at each CELL", full.coast(0, 100 + cell), 1);
            e.due("a ROCK at none", none.coast(0, 100 + cell), 0);
        }
        IllLight twice = Check.coast(Check.times(60, "rock 1 1;"));
        e.due("told sixty times, it is one ROCK", twice.coast(0, 107), 1);
        e.due("and none beside it", twice.coast(0, 108), 0);
    }

    private void guards() {
        e.says("GUARDS, at most 4, from 0 on: a CELL, a RANGE, 0 .. 7");
        IllLight x = Check.coast("guard 0 0 0;guard 5 0 7;guard 0 5 1;guard 5 5 6;");
        int[] cells = {0, 5, 30, 35};
        int[] ranges = {0, 7, 1, 6};
        e.due("GUARDS", x.coast(0, 4), 4);
        for (int g = 0; g < 4; g++) {
            e.due("CELL of GUARD " + g, x.coast(0, 10 + g), cells[g]);
            e.due("RANGE of GUARD " + g, x.coast(0, 20 + g), ranges[g]);
        }
        e.fault(0, "guard 0 0 8;", 2, 10);
        e.fault(0, Check.times(5, "guard 0 0 0;"), 3, 48);
        e.due("none", Check.coast("").coast(0, 4), 0);
    }

    private void ships() {
        e.says("SHIPS, at most 4, from 0 on: a CELL, CARGO, 0 .. 9, CHILDREN, 0 .. 9");
        IllLight x = Check.coast("ship 0 0 0 9;ship 5 0 9 0;ship 0 5 1 8;ship 5 5 8 1;");
        int[][] dues = {{0, 5, 30, 35}, {0, 9, 1, 8}, {9, 0, 8, 1}};
        e.due("SHIPS", x.coast(0, 5), 4);
        for (int ship = 0; ship < 4; ship++) {
            for (int k = 0; k < 3; k++) {
                e.due("of SHIP " + ship, x.coast(0, 30 + 10 * k + ship), dues[k][ship]);
            }
        }
        e.fault(0, "ship 0 0 10 0;", 2, 9);
        e.fault(0, "ship 0 0 0 10;", 2, 11);
        e.fault(0, Check.times(5, SHIP), 3, 52);
        e.due("none", Check.coast("").coast(0, 5), 0);
    }

    private void men() {
        e.says("MEN of each SHIP, at most 4, from 0 on (0 is the CAPTAIN): a KIND, two numbers");
        IllLight x = Check.coast(Check.times(4, "ship 0 0 0 0;late 1 2;plain 3;hired;late 9 23;"));
        int[][] dues = {{2, 1, 2}, {0, 3, 0}, {1, 0, 0}, {2, 9, 23}};
        for (int ship = 0; ship < 4; ship++) {
            e.due("MEN of SHIP " + ship, x.coast(0, 60 + ship), 4);
            for (int man = 0; man < 4; man++) {
                for (int what = 0; what < 3; what++) {
                    e.due("MAN " + man + " of SHIP " + ship, x.man(0, ship, man, what), dues[man][what]);
                }
            }
        }
        e.due("the first is the CAPTAIN", x.light(0, 0, 0, 12), 1);
        e.due("none", Check.coast(SHIP).coast(0, 60), 0);
        e.fault(0, SHIP + Check.times(5, "hired;"), 3, 37);
        e.says("KINDS: 0");
        IllLight kinds = Check.coast("ship 0 0 0 0;plain 1;hired;late 1 1;divided 1;ship 0 0 0 0;asleep;loyal 1;");
        for (int kind = 0; kind < 6; kind++) {
            e.due("KIND " + kind, kinds.man(0, kind / 4, kind % 4, 0), kind);
        }
    }

    private void plain() {
        e.says("PLAIN m, 0 .. 9: he means m");
        for (int m = 0; m <= 9; m++) {
            IllLight x = Check.coast(SHIP + "plain " + m + ";");
            e.due("in hour 0", x.light(0, 0, 0, 10), m);
            e.due("in hour 23", x.light(0, 0, 23, 10), m);
        }
        e.fault(0, SHIP + "plain 10;", 2, 19);
    }

    private void hired() {
        e.says("1 HIRED: he means what the CAPTAIN means (0, if he is the CAPTAIN himself)");
        IllLight x = Check.coast("ship 0 0 0 0;plain 7;hired;ship 0 0 0 0;hired;hired;plain 5;ship 0 0 4 0;late 3 2;hired;"
            + "ship 0 0 0 0;loyal 2;hired;divided 6;");
        e.due("as a PLAIN one", x.light(0, 0, 0, 11), 7);
        e.due("the CAPTAIN himself", x.light(0, 1, 0, 10), 0);
        e.due("as a HIRED CAPTAIN", x.light(0, 1, 0, 11), 0);
        e.due("as a LATE one, early", x.light(0, 2, 1, 11), 3);
        e.due("as a LATE one, late", x.light(0, 2, 2, 11), 0);
        e.due("as a LOYAL one", x.light(0, 3, 0, 11), 4);
        IllLight y = Check.coast("ship 0 0 0 0;divided 6;hired;ship 0 0 0 0;asleep;hired;");
        e.due("as a DIVIDED one", y.light(0, 0, 2, 11), 6);
        e.due("as a DIVIDED one", y.light(0, 0, 3, 11), 0);
        e.due("as an ASLEEP one", y.light(0, 1, 0, 11), 0);
        e.due("but he is not ASLEEP himself", y.man(0, 1, 1, 0), 1);
    }

    private void late() {
        e.says("2 LATE m, h, 0 .. 23: he means m ahead of hour h, 0 from it on");
        for (int h : new int[] {0, 1, 12, 23}) {
            IllLight x = Check.coast(SHIP + "late 9 " + h + ";");
            for (int hour = 0; hour < 24; hour++) {
                e.due("LATE " + h + " in hour " + hour, x.light(0, 0, hour, 10), hour < h ? 9 : 0);
            }
        }
        e.fault(0, SHIP + "late 9 24;", 2, 20);
        e.fault(0, SHIP + "late 10 0;", 2, 18);
    }

    private void divided() {
        e.says("3 DIVIDED m: m in even hours, 0 in odd ones");
        IllLight x = Check.coast(SHIP + "divided 9;divided 0;");
        for (int hour = 0; hour < 24; hour++) {
            e.due("in hour " + hour, x.light(0, 0, hour, 10), hour % 2 == 0 ? 9 : 0);
            e.due("0 in hour " + hour, x.light(0, 0, hour, 11), 0);
        }
        e.fault(0, SHIP + "divided 10;", 2, 21);
    }

    private void asleep() {
        e.says("4 ASLEEP: 0");
        IllLight x = Check.coast(SHIP + "plain 9;asleep;");
        e.due("in hour 0", x.light(0, 0, 0, 11), 0);
        e.due("in hour 23", x.light(0, 0, 23, 11), 0);
    }

    private void loyal() {
        e.says("5 LOYAL s: as much as SHIP s has of CARGO");
        IllLight x = Check.coast("ship 0 0 9 0;loyal 0;loyal 1;loyal 2;loyal 3;ship 0 0 0 0;ship 0 0 4 9;ship 0 0 1 0;");
        int[] dues = {9, 0, 4, 1};
        for (int man = 0; man < 4; man++) {
            e.due("LOYAL " + man, x.light(0, 0, 5, 10 + man), dues[man]);
        }
    }

    private void deeds() {
        e.says("A NIGHT has DEEDS, at most 40, from 0 on");
        IllLight x = new IllLight();
        e.due("none", Check.tell(x, 1, NONE, ""), 0);
        e.due("none", x.deed(0, NONE, 0), 0);
        e.due("forty", Check.tell(x, 1, NONE, Check.times(39, "hour;") + "throw 3;"), 1);
        e.due("forty", x.deed(1, NONE, 0), 40);
        e.due("the first", x.deed(1, 0, 0), 3);
        e.due("the last", x.deed(1, 39, 0), 2);
        e.due("no further one", x.deed(1, 40, 0), -2);
        e.fault(1, Check.times(41, "hour;"), 3, 200);
    }

    private void logs() {
        e.says("A LOG has MEN, at most 6, from 0 on: by how many of ten he means ill, 0 .. 10");
        IllLight x = Check.log("man 0;man 10;man 1;man 9;man 5;man 6;");
        int[] dues = {0, 10, 1, 9, 5, 6};
        e.due("MEN", x.log(0, 0), 6);
        for (int man = 0; man < 6; man++) {
            e.due("MAN " + man, x.log(0, 10 + man), dues[man]);
        }
        e.due("none", Check.log("").log(0, 0), 0);
        e.fault(2, "man 11;", 2, 4);
        e.fault(2, Check.times(7, "man 0;"), 3, 36);
        e.says("LIMIT, 1 .. 6 (1)");
        e.due("at first", Check.log("").log(0, 1), 1);
        e.due("least", Check.log("limit 1;").log(0, 1), 1);
        e.due("most", Check.log("limit 6;").log(0, 1), 6);
        e.fault(2, "limit 0;", 2, 6);
        e.fault(2, "limit 7;", 2, 6);
        e.says("ERRORS, of ten, 0 .. 9 (0)");
        e.due("at first", Check.log("").log(0, 2), 0);
        e.due("least", Check.log("errors 0;").log(0, 2), 0);
        e.due("most", Check.log("errors 9;").log(0, 2), 9);
        e.fault(2, "errors 10;", 2, 7);
        e.says("FACTS, at most 10, from 0 on: at an hour, 0 .. 23, it was LIT, or DARK");
        IllLight y = Check.log("lit 0;dark 23;" + Check.times(4, "lit 7;dark 8;"));
        e.due("FACTS", y.log(0, 3), 10);
        e.due("the first: LIT", y.log(0, 20), 1);
        e.due("in hour 0", y.log(0, 30), 0);
        e.due("the second: DARK", y.log(0, 21), 0);
        e.due("in hour 23", y.log(0, 31), 23);
        e.due("the last", y.log(0, 29), 0);
        e.due("its hour", y.log(0, 39), 8);
        e.due("none", Check.log("").log(0, 3), 0);
        e.fault(2, "lit 24;", 2, 4);
        e.fault(2, "dark 24;", 2, 5);
        e.fault(2, Check.times(11, "lit 0;"), 3, 60);
    }

    private void tape() {
        e.says("THE TAPE has at most 600 bytes");
        IllLight x = new IllLight();
        Check.feed(x, 0, Check.times(592, " ") + "limit 4;");
        e.due("600 bytes", x.end(600), 600);
        e.due("no more", x.end(601), NONE);
        e.due("all are read", x.text(0, NONE), 0);
        e.due("to the last", x.coast(0, 3), 4);
    }

    private void blanks() {
        e.says("TOKENS, as long as they go, blanks (10, 32) between");
        for (int sign = 0; sign < 256; sign++) {
            boolean isLetter = sign >= 'a' && sign <= 'z';
            boolean isDigit = sign >= '0' && sign <= '9';
            if (isLetter || isDigit) {
                continue;
            }
            boolean isBlank = sign == 10 || sign == 32;
            e.fault(0, "limit" + (char) sign + "3;", isBlank ? 0 : 1, isBlank ? NONE : 5);
        }
        e.taken(0, " \n limit \n\n 3 \n ; \n ");
        e.taken(0, " ");
        e.taken(0, "\n");
        e.taken(0, "");
        e.taken(0, "limit3;limit4;");
        e.fault(0, "limitlimit 3;", 1, 0);
        e.fault(0, "lim it 3;", 1, 0);
        e.due("two digits are one NUMBER", Check.coast("limit 12;").coast(0, 3), 12);
        e.fault(0, "limit 1 2;", 1, 8);
    }

    private void letters() {
        e.says("words, rows of letters a .. z");
        for (int sign = 0; sign < 256; sign++) {
            boolean isLetter = sign >= 'a' && sign <= 'z';
            boolean isBlank = sign == 10 || sign == 32;
            // as a letter it makes another word of 'hired', else the word is over ahead of it
            int place = isLetter ? 13 : sign == ';' ? 19 : 18;
            e.fault(0, SHIP + "hired" + (char) sign + ";", isBlank ? 0 : 1, isBlank ? NONE : place);
        }
        e.fault(0, Check.times(600, "a"), 1, 0);
        String[] lines = {"size 2 2;", "lamp 2 2;", "rock 2 2;", "guard 2 2 2;", "ship 2 2 2 2;", "limit 2;", "go 2 2;",
            "mean 2 2 2;", "throw 2;", "hour;", "man 2;", "limit 2;", "errors 2;", "lit 2;", "dark 2;"};
        for (int k = 0; k < lines.length; k++) {
            int sort = k < 6 ? 0 : k < 10 ? 1 : 2;
            e.taken(sort, lines[k]);
            for (int at = 0; at < lines[k].length() && lines[k].charAt(at) >= 'a'; at++) {
                // another letter, one letter less, one more
                e.fault(sort, lines[k].substring(0, at) + "x" + lines[k].substring(at + 1), 1, 0);
                e.fault(sort, lines[k].substring(0, at) + lines[k].substring(at + 1), 1, 0);
                e.fault(sort, lines[k].substring(0, at) + "x" + lines[k].substring(at), 1, 0);
            }
        }
        for (String kind : KINDS) {
            for (int at = 0; at < kind.length() && kind.charAt(at) >= 'a'; at++) {
                e.fault(0, SHIP + kind.substring(0, at) + "x" + kind.substring(at + 1), 1, 13);
            }
        }
    }

    private void digits() {
        e.says("NUMBERS, 1 or 2 digits; ; one byte");
        for (int sign = 0; sign < 256; sign++) {
            boolean isBlank = sign == 10 || sign == 32;
            if (sign >= '1' && sign <= '9') {
                e.taken(0, "limit " + (char) sign + ";");
            } else {
                e.fault(0, "limit " + (char) sign + ";", sign == '0' ? 2 : 1, isBlank ? 7 : 6);
            }
        }
        e.due("one digit", Check.coast("limit 9;").coast(0, 3), 9);
        e.due("two digits", Check.coast("limit 09;").coast(0, 3), 9);
        e.due("two digits", Check.coast("limit 20;").coast(0, 3), 20);
        e.fault(0, "limit 009;", 1, 6);
        e.fault(0, "limit 3;;", 1, 8);
    }

    /** A line must have just as many numbers: one less or one more is a FAULT 1 there. */
    private void lines(int sort, String ahead, String word, int numbers) {
        for (int k = 0; k <= 5; k++) {
            String line = word + Check.times(k, " 2");
            int semicolon = ahead.length() + line.length();
            int oneMore = ahead.length() + word.length() + 2 * numbers + 1;
            e.fault(sort, ahead + line + ";", k == numbers ? 0 : 1, k == numbers ? NONE : k < numbers ? semicolon : oneMore);
            // without its ';' no line is whole: the end is wrong, or the number too many
            e.fault(sort, ahead + line, 1, k <= numbers ? semicolon : oneMore);
        }
        for (int other = 0; other < 3; other++) {
            if (other != sort && !word.equals("limit")) {
                e.fault(other, word + Check.times(numbers, " 2") + ";", 1, 0);
            }
        }
    }

    private void coastLines() {
        e.says("A COAST's text: {(('size' | 'lamp' | 'rock') NUMBER NUMBER | 'guard' NUMBER NUMBER NUMBER"
            + " | 'ship' NUMBER NUMBER NUMBER NUMBER | ('limit' | 'plain' | 'divided' | 'loyal') NUMBER"
            + " | 'late' NUMBER NUMBER | 'hired' | 'asleep') ';'}");
        e.taken(0, "");
        String ships = Check.times(3, SHIP);
        lines(0, "", "size", 2);
        lines(0, "", "lamp", 2);
        lines(0, "", "rock", 2);
        lines(0, "", "guard", 3);
        lines(0, "", "ship", 4);
        lines(0, "", "limit", 1);
        lines(0, ships, "plain", 1);
        lines(0, ships, "divided", 1);
        lines(0, ships, "loyal", 1);
        lines(0, ships, "late", 2);
        lines(0, ships, "hired", 0);
        lines(0, ships, "asleep", 0);
        e.fault(0, ";", 1, 0);
        e.fault(0, "3;", 1, 0);
        e.fault(0, "limit 3;size;", 1, 12);
    }

    /** Each number of a line at its least and most, and one beyond, the others being at their least. */
    private void numbers(int sort, String ahead, String word, int... bounds) {
        for (int k = 0; k < bounds.length; k += 2) {
            for (int n : new int[] {bounds[k] - 1, bounds[k], bounds[k + 1], bounds[k + 1] + 1, 99}) {
                if (n < 0) {
                    continue;
                }
                StringBuilder line = new StringBuilder(ahead).append(word);
                int place = 0;
                for (int j = 0; j < bounds.length; j += 2) {
                    line.append(' ');
                    place = j == k ? line.length() : place;
                    line.append(j == k ? n : bounds[j]);
                }
                boolean can = n >= bounds[k] && n <= bounds[k + 1];
                e.fault(sort, line.append(";").toString(), can ? 0 : 2, can ? NONE : place);
            }
        }
    }

    private void coastNumbers() {
        e.says("(size: WIDE, HIGH; lamp, rock, guard, ship: a column, a row, 0 .. 7; guard: RANGE; ship: CARGO, CHILDREN");
        numbers(0, "", "size", 2, 8, 2, 8);
        numbers(0, "size 8 8;", "lamp", 0, 7, 0, 7);
        numbers(0, "size 8 8;", "rock", 0, 7, 0, 7);
        numbers(0, "size 8 8;", "guard", 0, 7, 0, 7, 0, 7);
        numbers(0, "size 8 8;", "ship", 0, 7, 0, 7, 0, 9, 0, 9);
        numbers(0, "", "limit", 1, 20);
        numbers(0, SHIP, "plain", 0, 9);
        numbers(0, SHIP, "divided", 0, 9);
        numbers(0, SHIP, "late", 0, 9, 0, 23);
        IllLight x = Check.coast("size 3 5;lamp 2 4;rock 1 3;guard 0 4 6;ship 2 3 8 7;");
        int[] whats = {0, 1, 2, 110, 10, 20, 30, 40, 50};
        int[] dues = {3, 5, 14, 1, 12, 6, 11, 8, 7};
        for (int k = 0; k < whats.length; k++) {
            e.due("in this order " + whats[k], x.coast(0, whats[k]), dues[k]);
        }
        e.says("loyal: a SHIP, 0 .. 3)");
        numbers(0, Check.times(4, SHIP), "loyal", 0, 3);
    }

    private void furtherMen() {
        e.says("plain and so on: a further MAN of the latest SHIP");
        IllLight x = Check.coast("ship 0 0 0 0;plain 1;ship 0 0 0 0;ship 0 0 0 0;plain 2;limit 3;plain 3;rock 0 0;guard 0 0 0;plain 4;");
        e.due("MEN of SHIP 0", x.coast(0, 60), 1);
        e.due("MEN of SHIP 1", x.coast(0, 61), 0);
        e.due("MEN of SHIP 2", x.coast(0, 62), 3);
        e.due("the last", x.man(0, 2, 2, 1), 4);
    }

    private void nightLines() {
        e.says("A NIGHT's text: {('go' NUMBER NUMBER | 'mean' NUMBER NUMBER NUMBER | 'throw' NUMBER | 'hour') ';'}");
        e.taken(1, "");
        lines(1, "", "go", 2);
        lines(1, "", "mean", 3);
        lines(1, "", "throw", 1);
        lines(1, "", "hour", 0);
        e.fault(1, "limit 1;", 1, 0);
    }

    private void nightNumbers() {
        e.says("(go: a SHIP, 0 .. 3, a direction, 0 up, 1 right, 2 down, 3 left; mean: a SHIP, a MAN, 0 .. 3, m; throw: a SHIP)");
        numbers(1, "", "go", 0, 3, 0, 3);
        numbers(1, "", "mean", 0, 3, 0, 3, 0, 9);
        numbers(1, "", "throw", 0, 3);
        int[] cells = {1, 5, 7, 3};
        for (int direction = 0; direction < 4; direction++) {
            IllLight x = Check.night("size 3 3;ship 1 1 0 0;", "go 0 " + direction + ";");
            e.due("direction " + direction, x.state(0, 0, 1, 10), cells[direction]);
        }
    }

    private void logLines() {
        e.says("A LOG's text: {(('man' | 'limit' | 'errors' | 'lit' | 'dark') NUMBER) ';'}");
        e.taken(2, "");
        for (String word : new String[] {"man", "limit", "errors", "lit", "dark"}) {
            lines(2, "", word, 1);
        }
    }

    private void logNumbers() {
        e.says("(man: of ten; lit, dark: an hour)");
        numbers(2, "", "man", 0, 10);
        numbers(2, "", "limit", 1, 6);
        numbers(2, "", "errors", 0, 9);
        numbers(2, "", "lit", 0, 23);
        numbers(2, "", "dark", 0, 23);
    }

    private void laterOnes() {
        e.says("Later ones strike, but ROCKS, GUARDS, SHIPS, MEN, DEEDS, FACTS, which are further ones");
        IllLight x = Check.coast("size 2 3;lamp 1 1;limit 5;rock 0 0;guard 0 0 1;ship 0 0 1 0;plain 1;"
            + "size 4 5;lamp 2 2;limit 6;rock 1 0;guard 0 0 1;ship 0 0 1 0;plain 1;plain 1;");
        int[] whats = {0, 1, 2, 3, 4, 5, 60, 61, 100, 101};
        int[] dues = {4, 5, 10, 6, 2, 2, 1, 2, 1, 1};
        for (int k = 0; k < whats.length; k++) {
            e.due("coast " + whats[k], x.coast(0, whats[k]), dues[k]);
        }
        IllLight y = Check.log("limit 3;errors 4;man 1;lit 2;limit 2;errors 5;man 1;lit 2;dark 2;");
        int[] ofLog = {2, 2, 5, 3};
        for (int what = 0; what < 4; what++) {
            e.due("log " + what, y.log(0, what), ofLog[what]);
        }
        IllLight z = Check.night("", "throw 0;throw 0;");
        e.due("DEEDS", z.deed(0, NONE, 0), 2);
        e.due("a later size makes room", Check.coast("size 2 2;rock 7 7;size 8 8;").coast(0, 163), 1);
    }

    private void places() {
        e.says("FAULTS of all, with places (a token's first byte; the end's)");
        e.fault(0, "?", 1, 0);
        e.fault(0, " \n ?", 1, 3);
        e.fault(0, "limit 3; limits 3;", 1, 9);
        e.fault(0, "limit  21;", 2, 7);
        e.fault(0, "limit 3;\n\nplain 1;", 4, 10);
        e.fault(0, "limit", 1, 5);
        e.fault(0, "limit 3", 1, 7);
        e.fault(0, "limit \n ", 1, 8);
        e.fault(0, Check.times(594, " ") + "limit ", 1, 600);
        e.fault(0, "lamp 7 7; ", 5, 10);
    }

    private void noTextGoesOn() {
        e.says("1 the first byte or token with which no text goes on (a longer row of digits is no token)");
        e.fault(0, "limit 3;x", 1, 8);
        e.fault(0, "limit 3;limit ?;?", 1, 14);
        e.fault(0, "limit 123;", 1, 6);
        e.fault(0, "limit 000;", 1, 6);
        e.fault(0, "limit 1 234;", 1, 8);
        e.fault(0, "123", 1, 0);
        e.fault(0, "limit 3;" + Check.times(590, "1"), 1, 8);
        e.fault(1, "hour;hours;", 1, 5);
        e.fault(2, "lit 5;li", 1, 6);
    }

    private void firstByPlace() {
        e.says("If there is none, the first by place, of one place the least");
        String five = Check.times(5, "guard 0 0 0;");
        e.fault(0, "limit 0;" + five + "plain 1;?", 1, 76);
        e.fault(0, five + "limit 0;?", 1, 68);
        e.fault(0, "plain 1;limit 0;?", 1, 16);
        e.fault(0, "limit 0;" + five + "plain 1;", 2, 6);
        e.fault(0, five + "limit 0;plain 1;", 3, 48);
        e.fault(0, "plain 1;limit 0;" + five, 4, 0);
        e.fault(0, "limit 0;limit 21;", 2, 6);
        e.fault(0, "ship 9 9 99 99;", 2, 5);
        e.fault(0, "lamp 7 7;limit 0;", 2, 15);
        e.fault(0, "ship 0 0 0 0;loyal 1;limit 0;", 2, 27);
        // both at the end's place
        e.fault(0, "ship 0 0 0 0;loyal 1;lamp 7 7;", 5, 30);
        e.fault(1, "go 9 0;" + Check.times(41, "hour;"), 2, 3);
        e.fault(2, Check.times(7, "man 1;") + "man 99;", 3, 36);
    }

    private void numbersThatCantBe() {
        e.says("2 a NUMBER that can't be (as above; a line with such a NUMBER tells its GUARD, SHIP, MAN, DEED, FACT all the same)");
        e.fault(0, "guard 0 0 8;" + Check.times(4, "guard 0 0 0;"), 2, 10);
        e.fault(0, Check.times(4, "guard 0 0 0;") + "guard 0 0 8;", 3, 48);
        e.fault(0, Check.times(3, "guard 0 0 0;") + "guard 0 0 8;guard 0 0 0;", 2, 46);
        e.fault(0, "ship 8 0 0 0;plain 1;", 2, 5);
        e.fault(0, Check.times(4, SHIP) + "ship 8 0 0 0;", 3, 52);
        e.fault(0, SHIP + Check.times(4, "plain 1;") + "plain 10;", 3, 45);
        e.fault(1, Check.times(40, "hour;") + "go 4 4;", 3, 200);
        e.fault(2, Check.times(10, "lit 0;") + "lit 24;", 3, 60);
        IllLight x = Check.coast("limit 5;");
        e.due("nothing is told by such a text", Check.tell(x, 0, 0, "limit 4;size 9 9;"), NONE);
        e.due("nothing is told by such a text", x.coast(0, 3), 5);
    }

    private void tooMany() {
        e.says("3 a 5th GUARD, a 5th SHIP, a 5th MAN of a SHIP, a 41st DEED, a 7th MAN of a LOG, an 11th FACT, at its first token");
        e.taken(0, Check.times(4, "guard 0 0 0;"));
        e.fault(0, Check.times(4, "guard 0 0 0;") + " guard 0 0 0;", 3, 49);
        e.taken(0, Check.times(4, SHIP));
        e.fault(0, Check.times(4, SHIP) + " ship 0 0 0 0;", 3, 53);
        for (String kind : KINDS) {
            e.taken(0, Check.times(4, SHIP + Check.times(4, kind)));
            e.fault(0, SHIP + Check.times(4, "hired;") + kind, 3, 37);
            e.fault(0, SHIP + Check.times(4, "hired;") + SHIP + Check.times(4, "hired;") + kind, 3, 74);
        }
        e.taken(1, Check.times(40, "throw 0;"));
        for (String deed : new String[] {"go 0 0;", "mean 0 0 0;", "throw 0;", "hour;"}) {
            e.fault(1, Check.times(40, "hour;") + deed, 3, 200);
        }
        e.taken(2, Check.times(6, "man 0;"));
        e.fault(2, Check.times(6, "man 0;") + "limit 1;man 0;", 3, 44);
        e.taken(2, Check.times(10, "lit 0;"));
        e.taken(2, Check.times(10, "dark 0;"));
        e.fault(2, Check.times(10, "lit 0;") + "dark 0;", 3, 60);
        e.fault(2, Check.times(10, "dark 0;") + "lit 0;", 3, 70);
    }

    private void aheadOfShips() {
        e.says("4 a MAN ahead of all SHIPS, at his first token");
        for (String kind : KINDS) {
            e.fault(0, kind, 4, 0);
            e.fault(0, "limit 2; " + kind + SHIP, 4, 9);
            e.taken(0, SHIP + kind);
        }
        e.fault(0, Check.times(5, "hired;"), 4, 0);
        e.fault(0, "plain 99;", 4, 0);
    }

    private void cellsThatAreNotThere() {
        e.says("If there is none of these, at the end's place, of a COAST: 5 a CELL that was told of and is not there");
        for (String[] line : new String[][] {{"lamp ", ";"}, {"rock ", ";"}, {"guard ", " 0;"}, {"ship ", " 0 0;"}}) {
            for (int[] size : new int[][] {{2, 2}, {2, 7}, {7, 2}, {6, 6}}) {
                String told = size[0] == 6 ? "" : "size " + size[0] + " " + size[1] + ";";
                int column = size[0] - 1;
                int row = size[1] - 1;
                String last = line[0] + column + " " + row + line[1];
                String right = line[0] + (column + 1) + " " + row + line[1];
                String below = line[0] + column + " " + (row + 1) + line[1];
                e.taken(0, told + last);
                e.fault(0, told + right, 5, told.length() + right.length());
                e.fault(0, told + below, 5, told.length() + below.length());
                // a size that is told behind it counts as well
                e.taken(0, last + told);
                e.fault(0, right + told, 5, told.length() + right.length());
            }
        }
        e.taken(0, "rock 7 7;size 8 8;");
        e.fault(0, "size 8 8;rock 7 7;size 7 8;", 5, 27);
        e.fault(0, "lamp 7 7;lamp 0 0;", 5, 18);
        e.fault(0, "lamp 6 6; \n", 5, 11);
        e.fault(0, "lamp 6 6;plain 1;", 4, 9);
        e.fault(0, "lamp 6 6;" + Check.times(5, SHIP), 3, 61);
    }

    private void shipsThatAreNotThere() {
        e.says("6 a SHIP that was told of (by loyal) and is not there");
        for (int ships = 1; ships <= 4; ships++) {
            for (int s = 0; s <= 3; s++) {
                String text = SHIP + "loyal " + s + ";" + Check.times(ships - 1, SHIP);
                e.fault(0, text, s < ships ? 0 : 6, s < ships ? NONE : text.length());
            }
        }
        e.fault(0, "ship 0 0 0 0;loyal 3;loyal 0;", 6, 29);
        e.fault(0, "ship 0 0 0 0;loyal 1; ", 6, 22);
    }

    private void twoOfASort() {
        e.says("COASTS, at most 2 (sort 0), NIGHTS, at most 2 (1), LOGS, at most 2 (2), from 0 on");
        IllLight x = new IllLight();
        for (int sort = 0; sort < 3; sort++) {
            e.due("none", x.count(sort), 0);
            e.due("the first", x.text(sort, NONE), 0);
            e.due("the second", x.text(sort, NONE), 1);
            e.due("no third", x.text(sort, NONE), -2);
            e.due("two", x.count(sort), 2);
        }
        e.due("each sort for itself", x.text(0, 1), 1);
    }
}
