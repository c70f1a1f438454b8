import java.math.BigInteger;
import java.util.ArrayList;
import java.util.HashSet;
import java.util.List;
import java.util.Set;
import java.util.TreeSet;
import java.util.regex.Matcher;
import java.util.regex.Pattern;

/** The document written a second time, as plainly as the Java library allows, without regard to time or room. */
final class Model {
    private static final int NONE = -1;

    /** One line of a text: its word, the places of its tokens, its numbers. */
    private static final class Line {
        String word;
        int place;
        final List<Integer> numbers = new ArrayList<>();
        final List<Integer> places = new ArrayList<>();
    }

    static final class Ship {
        int column;
        int row;
        int cargo;
        int children;
        boolean struck;
        boolean caught;
        boolean gone;
        final List<Man> men = new ArrayList<>();

        boolean lost() {
            return struck || caught;
        }
    }

    static final class Man {
        String kind;
        int first;
        int second;
        boolean aboard = true;
    }

    static final class Coast {
        int wide = 6;
        int high = 6;
        int lampColumn;
        int lampRow;
        int limit = 1;
        final Set<Integer> rocks = new TreeSet<>();
        final List<int[]> guards = new ArrayList<>();
        final List<Ship> ships = new ArrayList<>();
        int hour;

        int cell(int column, int row) {
            return wide * row + column;
        }
    }

    static final class Log {
        final List<Integer> men = new ArrayList<>();
        int limit = 1;
        int errors;
        final List<int[]> facts = new ArrayList<>();
    }

    private static final Pattern TOKEN = Pattern.compile("[ \n]*([a-z]+|[0-9]{1,2}(?![0-9])|;)");

    private static final List<String> KINDS = List.of("plain", "hired", "late", "divided", "asleep", "loyal");
    private static final List<String> DEEDS = List.of("go", "mean", "throw", "hour");

    /** What a further object holds: the lines, and the texts from which all is told anew when it is needed. */
    int fault;
    int place;
    private final List<Line> lines = new ArrayList<>();
    private final int sort;

    Model(int sort, String text) {
        this.sort = sort;
        place = NONE;
        int wrong = split(text);
        if (wrong != NONE) {
            fault = 1;
            place = wrong;
            return;
        }
        findFaults(text.length());
    }

    private static int[][] bounds(int sort, String word) {
        if (sort == 0) {
            switch (word) {
                case "size": return new int[][] {{2, 8}, {2, 8}};
                case "lamp": case "rock": return new int[][] {{0, 7}, {0, 7}};
                case "guard": return new int[][] {{0, 7}, {0, 7}, {0, 7}};
                case "ship": return new int[][] {{0, 7}, {0, 7}, {0, 9}, {0, 9}};
                case "limit": return new int[][] {{1, 20}};
                case "plain": case "divided": return new int[][] {{0, 9}};
                case "loyal": return new int[][] {{0, 3}};
                case "late": return new int[][] {{0, 9}, {0, 23}};
                case "hired": case "asleep": return new int[0][];
                default: return null;
            }
        }
        if (sort == 1) {
            switch (word) {
                case "go": return new int[][] {{0, 3}, {0, 3}};
                case "mean": return new int[][] {{0, 3}, {0, 3}, {0, 9}};
                case "throw": return new int[][] {{0, 3}};
                case "hour": return new int[0][];
                default: return null;
            }
        }
        switch (word) {
            case "man": return new int[][] {{0, 10}};
            case "limit": return new int[][] {{1, 6}};
            case "errors": return new int[][] {{0, 9}};
            case "lit": case "dark": return new int[][] {{0, 23}};
            default: return null;
        }
    }

    /** Takes the text apart; the place of the first byte or token with which no text goes on, or NONE. */
    private int split(String text) {
        int at = 0;
        Line line = null;
        Matcher matcher = TOKEN.matcher(text);
        while (true) {
            int from = at;
            while (from < text.length() && (text.charAt(from) == ' ' || text.charAt(from) == '\n')) {
                from++;
            }
            if (from == text.length()) {
                return line == null ? NONE : from;
            }
            if (!matcher.region(at, text.length()).lookingAt()) {
                return from;
            }
            String token = matcher.group(1);
            at = matcher.end();
            if (line == null) {
                if (bounds(sort, token) == null) {
                    return from;
                }
                line = new Line();
                line.word = token;
                line.place = from;
            } else if (line.numbers.size() < bounds(sort, line.word).length) {
                if (!Character.isDigit(token.charAt(0))) {
                    return from;
                }
                line.numbers.add(Integer.valueOf(token));
                line.places.add(from);
            } else {
                if (!token.equals(";")) {
                    return from;
                }
                lines.add(line);
                line = null;
            }
        }
    }

    private void findFaults(int end) {
        TreeSet<Integer> found = new TreeSet<>();
        int guards = 0;
        int ships = 0;
        int crew = 0;
        int men = 0;
        int facts = 0;
        int deeds = 0;
        for (Line line : lines) {
            int[][] bounds = bounds(sort, line.word);
            for (int k = 0; k < bounds.length; k++) {
                int n = line.numbers.get(k);
                if (n < bounds[k][0] || n > bounds[k][1]) {
                    found.add(10 * line.places.get(k) + 2);
                }
            }
            boolean many = false;
            if (sort == 1) {
                deeds++;
                many = deeds > 40;
            } else if (line.word.equals("guard")) {
                guards++;
                many = guards > 4;
            } else if (line.word.equals("ship")) {
                ships++;
                crew = 0;
                many = ships > 4;
            } else if (KINDS.contains(line.word)) {
                crew++;
                many = ships > 0 && crew > 4;
                if (ships == 0) {
                    found.add(10 * line.place + 4);
                }
            } else if (line.word.equals("man")) {
                men++;
                many = men > 6;
            } else if (line.word.equals("lit") || line.word.equals("dark")) {
                facts++;
                many = facts > 10;
            }
            if (many) {
                found.add(10 * line.place + 3);
            }
        }
        if (found.isEmpty() && sort == 0) {
            faultsAtEnd(found, end);
        }
        if (!found.isEmpty()) {
            fault = found.first() % 10;
            place = found.first() / 10;
        }
    }

    private void faultsAtEnd(Set<Integer> found, int end) {
        Coast c = coast();
        for (Line line : lines) {
            if (List.of("lamp", "rock", "guard", "ship").contains(line.word)
                && (line.numbers.get(0) >= c.wide || line.numbers.get(1) >= c.high)) {
                found.add(10 * end + 5);
            }
            if (line.word.equals("loyal") && line.numbers.get(0) >= c.ships.size()) {
                found.add(10 * end + 6);
            }
        }
    }

    Coast coast() {
        Coast c = new Coast();
        for (Line line : lines) {
            List<Integer> n = line.numbers;
            switch (line.word) {
                case "size":
                    c.wide = n.get(0);
                    c.high = n.get(1);
                    break;
                case "lamp":
                    c.lampColumn = n.get(0);
                    c.lampRow = n.get(1);
                    break;
                case "rock":
                    c.rocks.add(100 * n.get(1) + n.get(0));
                    break;
                case "guard":
                    c.guards.add(new int[] {n.get(0), n.get(1), n.get(2)});
                    break;
                case "ship":
                    Ship ship = new Ship();
                    ship.column = n.get(0);
                    ship.row = n.get(1);
                    ship.cargo = n.get(2);
                    ship.children = n.get(3);
                    c.ships.add(ship);
                    break;
                case "limit":
                    c.limit = n.get(0);
                    break;
                default:
                    Man man = new Man();
                    man.kind = line.word;
                    man.first = n.size() > 0 ? n.get(0) : 0;
                    man.second = n.size() > 1 ? n.get(1) : 0;
                    c.ships.get(c.ships.size() - 1).men.add(man);
            }
        }
        return c;
    }

    Log log() {
        Log l = new Log();
        for (Line line : lines) {
            int n = line.numbers.get(0);
            switch (line.word) {
                case "man": l.men.add(n); break;
                case "limit": l.limit = n; break;
                case "errors": l.errors = n; break;
                default: l.facts.add(new int[] {line.word.equals("lit") ? 1 : 0, n});
            }
        }
        return l;
    }

    // ---- light

    static int meant(Coast c, Ship ship, Man man, int hour) {
        if (!man.aboard) {
            return 0;
        }
        switch (man.kind) {
            case "plain": return man.first;
            case "hired":
                Man captain = ship.men.get(0);
                return captain == man ? 0 : meant(c, ship, captain, hour);
            case "late": return hour < man.second ? man.first : 0;
            case "divided": return hour % 2 == 0 ? man.first : 0;
            case "asleep": return 0;
            default: return c.ships.get(man.first).cargo;
        }
    }

    static int harm(Coast c, Ship ship, int hour) {
        int sum = ship.cargo - 2 * ship.children;
        for (Man man : ship.men) {
            sum += meant(c, ship, man, hour);
        }
        return sum < 0 ? 0 : sum;
    }

    static int glow(Coast c, Ship ship, int hour) {
        if (harm(c, ship, hour) < c.limit) {
            return 0;
        }
        for (Man man : ship.men) {
            if (man.aboard && !man.kind.equals("asleep") && meant(c, ship, man, hour) == 0) {
                return 1;
            }
        }
        return 2;
    }

    static boolean lit(Coast c, Ship ship, int hour) {
        int glow = glow(c, ship, hour);
        return glow == 2 || glow == 1 && hour % 2 == 0;
    }

    static boolean beam(Coast c, Ship ship) {
        if (ship.lost()) {
            return false;
        }
        Ship whose = ship;
        int nearest = 99;
        for (Ship other : c.ships) {
            if (other == ship || other.lost()) {
                continue;
            }
            int far = NONE;
            for (int k = 1; k < 8; k++) {
                // walks from the lamp to the ship, cell by cell
                if (ship.row == c.lampRow && other.row == c.lampRow) {
                    int column = c.lampColumn + (ship.column > c.lampColumn ? k : -k);
                    boolean ahead = ship.column > c.lampColumn ? column < ship.column : column > ship.column;
                    far = ahead && other.column == column ? k : far;
                }
                if (ship.column == c.lampColumn && other.column == c.lampColumn) {
                    int row = c.lampRow + (ship.row > c.lampRow ? k : -k);
                    boolean ahead = ship.row > c.lampRow ? row < ship.row : row > ship.row;
                    far = ahead && other.row == row ? k : far;
                }
            }
            if (far != NONE && far < nearest) {
                nearest = far;
                whose = other;
            }
        }
        return lit(c, whose, c.hour);
    }

    static boolean guarded(Coast c, int column, int row) {
        for (int[] g : c.guards) {
            if (Math.abs(g[0] - column) + Math.abs(g[1] - row) <= g[2]) {
                return true;
            }
        }
        return false;
    }

    // ---- nights

    private static final int[] RIGHT = {0, 1, 0, -1};
    private static final int[] DOWN = {-1, 0, 1, 0};

    static boolean act(Coast c, String deed, int... n) {
        if (deed.equals("hour")) {
            return pass(c);
        }
        if (n[0] >= c.ships.size() || c.ships.get(n[0]).lost()) {
            return false;
        }
        Ship ship = c.ships.get(n[0]);
        switch (deed) {
            case "go":
                int column = ship.column + RIGHT[n[1]];
                int row = ship.row + DOWN[n[1]];
                if (ship.gone || column < 0 || row < 0 || column >= c.wide || row >= c.high) {
                    return false;
                }
                ship.column = column;
                ship.row = row;
                ship.gone = true;
                return true;
            case "mean":
                if (n[1] >= ship.men.size()) {
                    return false;
                }
                ship.men.get(n[1]).kind = "plain";
                ship.men.get(n[1]).first = n[2];
                return true;
            default:
                if (ship.cargo < 1) {
                    return false;
                }
                ship.cargo--;
                return true;
        }
    }

    private static boolean pass(Coast c) {
        if (c.hour == 23) {
            return false;
        }
        List<Ship> lit = new ArrayList<>();
        for (Ship ship : c.ships) {
            if (beam(c, ship)) {
                lit.add(ship);
            }
        }
        for (Ship ship : c.ships) {
            ship.gone = false;
            if (ship.lost()) {
                continue;
            }
            if (lit.contains(ship)) {
                ship.caught = guarded(c, ship.column, ship.row);
            } else {
                ship.struck = c.rocks.contains(100 * ship.row + ship.column);
            }
        }
        c.hour++;
        return true;
    }

    /** The state behind n deeds; null if there is none such. */
    Coast after(Coast c, int n) {
        if (n < 0 || n > lines.size()) {
            return null;
        }
        for (int k = 0; k < n; k++) {
            Line line = lines.get(k);
            int[] numbers = new int[line.numbers.size()];
            for (int i = 0; i < numbers.length; i++) {
                numbers[i] = line.numbers.get(i);
            }
            if (!act(c, line.word, numbers)) {
                return null;
            }
        }
        return c;
    }

    int stop(Model coast) {
        int n = 0;
        while (after(coast.coast(), n + 1) != null) {
            n++;
        }
        return n;
    }

    int deed(int k, int what) {
        if (k == NONE && what == 0) {
            return lines.size();
        }
        if (k < 0 || k >= lines.size() || what < 0 || what > 3) {
            return -2;
        }
        Line line = lines.get(k);
        if (what == 0) {
            return DEEDS.indexOf(line.word);
        }
        return what <= line.numbers.size() ? line.numbers.get(what - 1) : NONE;
    }

    static int state(Coast c, int what) {
        int bits = 0;
        if (what == 0) {
            return c.hour;
        }
        for (int s = 0; s < c.ships.size(); s++) {
            Ship ship = c.ships.get(s);
            if (what == 1 && ship.struck || what == 2 && ship.caught) {
                bits |= 1 << s;
            }
            if (what == 10 + s) {
                return ship.lost() ? NONE : c.cell(ship.column, ship.row);
            }
            if (what == 20 + s) {
                return ship.cargo;
            }
            if (what == 30 + s) {
                return harm(c, ship, c.hour);
            }
            if (what == 40 + s) {
                return beam(c, ship) ? 1 : 0;
            }
            for (int k = 0; k < ship.men.size(); k++) {
                if (what == 50 + 4 * s + k) {
                    return meant(c, ship, ship.men.get(k), c.hour);
                }
            }
        }
        return what == 1 || what == 2 ? bits : -2;
    }

    int drawn(int seed, int n, int what) {
        Coast c = coast();
        if (c.ships.isEmpty() || n < 0 || n > 60) {
            return -2;
        }
        long[] x = {seed & 0xFFFFFFFFL};
        for (int k = 0; k < n; k++) {
            int ship = below(x, c.ships.size());
            int number = below(x, 8);
            if (number < 4) {
                act(c, "go", ship, number);
            } else if (number == 4) {
                int man = below(x, 4);
                int m = below(x, 10);
                act(c, "mean", ship, man, m);
            } else {
                act(c, number == 5 ? "throw" : "hour", ship);
            }
        }
        return state(c, what);
    }

    private static int below(long[] x, int n) {
        x[0] = (x[0] * 1103515245L + 12345L) & 0xFFFFFFFFL;
        return (int) ((x[0] >> 16) % n);
    }

    // ---- ways

    /** By hours passed, the cells (100 times row, and column) where the ship can be; light 0 its own, 1 always, 2 never. */
    private static List<Set<Integer>> waves(Coast c, Ship ship, int begin, int light, int start, int hours) {
        List<Set<Integer>> waves = new ArrayList<>();
        Set<Integer> here = new HashSet<>();
        here.add(start);
        waves.add(here);
        for (int t = 0; t < hours; t++) {
            int hour = (begin + t) % 24;
            boolean isLit = light == 1 || light == 0 && lit(c, ship, hour);
            Set<Integer> there = new HashSet<>();
            for (int cell : here) {
                for (int d = 0; d < 5; d++) {
                    int column = cell % 100 + (d < 4 ? RIGHT[d] : 0);
                    int row = cell / 100 + (d < 4 ? DOWN[d] : 0);
                    if (column < 0 || row < 0 || column >= c.wide || row >= c.high) {
                        continue;
                    }
                    if (isLit ? !guarded(c, column, row) : !c.rocks.contains(100 * row + column)) {
                        there.add(100 * row + column);
                    }
                }
            }
            here = there;
            waves.add(here);
        }
        return waves;
    }

    private static int start(Ship ship) {
        return 100 * ship.row + ship.column;
    }

    private static int spot(Coast c, int cell) {
        return 100 * (cell / c.wide) + cell % c.wide;
    }

    private static int fewest(Coast c, Ship ship, int begin, int cell) {
        List<Set<Integer>> waves = waves(c, ship, begin, 0, start(ship), 60);
        for (int t = 0; t <= 60; t++) {
            if (waves.get(t).contains(spot(c, cell))) {
                return t;
            }
        }
        return NONE;
    }

    private static boolean within(Coast c, int ship, int begin, int cell, int n) {
        int way = fewest(c, c.ships.get(ship), begin, cell);
        return way != NONE && way <= n;
    }

    private boolean hasVoyage(int ship, int cell) {
        Coast c = coast();
        return ship >= 0 && ship < c.ships.size() && cell >= 0 && cell < c.wide * c.high;
    }

    int way(int ship, int cell) {
        return hasVoyage(ship, cell) ? fewest(coast(), coast().ships.get(ship), 0, cell) : NONE;
    }

    int free(int ship, int n, int what) {
        Coast c = coast();
        if (ship < 0 || ship >= c.ships.size() || n < 0 || n > 60 || what < 0 || what > 2) {
            return NONE;
        }
        Set<Integer> all = new HashSet<>();
        for (Set<Integer> wave : waves(c, c.ships.get(ship), 0, what, start(c.ships.get(ship)), n)) {
            all.addAll(wave);
        }
        return all.size();
    }

    int back(int ship, int cell) {
        if (!hasVoyage(ship, cell)) {
            return NONE;
        }
        Coast c = coast();
        Ship s = c.ships.get(ship);
        List<Set<Integer>> out = waves(c, s, 0, 0, start(s), 60);
        int best = NONE;
        for (int t = 0; t <= 60; t++) {
            if (!out.get(t).contains(spot(c, cell))) {
                continue;
            }
            List<Set<Integer>> home = waves(c, s, t, 0, spot(c, cell), 60 - t);
            for (int u = 0; u <= 60 - t; u++) {
                if (home.get(u).contains(start(s)) && (best == NONE || t + u < best)) {
                    best = t + u;
                }
            }
        }
        return best;
    }

    int leaves(int ship, int cell, int n) {
        if (!hasVoyage(ship, cell) || n < 0 || n > 60) {
            return NONE;
        }
        int bits = 0;
        for (int hour = 0; hour < 24; hour++) {
            bits |= within(coast(), ship, hour, cell, n) ? 1 << hour : 0;
        }
        return bits;
    }

    int helps(int ship, int cell, int n, int what) {
        if (!hasVoyage(ship, cell) || n < 0 || n > 60) {
            return NONE;
        }
        int men = coast().ships.get(ship).men.size();
        int cargo = coast().ships.get(ship).cargo;
        int best = NONE;
        int tries = what == 0 || what == 4 ? 1 << men : what == 1 ? 10 : what == 2 ? cargo + 1 : what == 3 ? 24 : 0;
        if (what == 1 && men == 0) {
            return NONE;
        }
        for (int k = tries - 1; k >= 0; k--) {
            Coast c = coast();
            Ship s = c.ships.get(ship);
            for (int man = 0; man < men; man++) {
                boolean in = (k >> man & 1) != 0;
                if (what == 0) {
                    s.men.get(man).aboard = in;
                } else if (what == 4 && in) {
                    s.men.get(man).kind = "asleep";
                }
            }
            if (what == 1) {
                s.men.get(0).kind = "plain";
                s.men.get(0).first = k;
            }
            s.cargo -= what == 2 ? k : 0;
            boolean bits = what == 0 || what == 4;
            if (within(c, ship, what == 3 ? k : 0, cell, n)
                && (best == NONE || !bits || Integer.bitCount(k) <= Integer.bitCount(best))) {
                best = k;
            }
        }
        return best;
    }

    // ---- rows and watches

    private static int[] wins(Coast c, int r, int pirate, int guard) {
        int prize = 0;
        for (int column = 0; column < c.wide; column++) {
            prize += c.rocks.contains(100 * pirate + column) ? 0 : 1;
        }
        boolean escapes = Math.abs(pirate - guard) > r;
        return new int[] {escapes ? prize : 0, escapes ? 0 : prize};
    }

    int rest(int r, int k) {
        Coast c = coast();
        if (r < 0 || r > 7) {
            return NONE;
        }
        List<Integer> rests = new ArrayList<>();
        int safest = 0;
        int won = NONE;
        for (int p = 0; p < c.high; p++) {
            int least = 99;
            for (int g = 0; g < c.high; g++) {
                least = Math.min(least, wins(c, r, p, g)[0]);
                int better = 0;
                for (int o = 0; o < c.high; o++) {
                    better += wins(c, r, o, g)[0] > wins(c, r, p, g)[0] ? 1 : 0;
                    better += wins(c, r, p, o)[1] > wins(c, r, p, g)[1] ? 1 : 0;
                }
                if (better == 0) {
                    rests.add(8 * p + g);
                }
            }
            if (least > won) {
                won = least;
                safest = p;
            }
        }
        if (k == -2) {
            return safest;
        }
        if (k == NONE) {
            return rests.size();
        }
        return k >= 0 && k < rests.size() ? rests.get(k) : NONE;
    }

    private static Set<Integer> seen(Coast c, int cell, int range) {
        Set<Integer> seen = new HashSet<>();
        for (int other = 0; other < c.wide * c.high; other++) {
            int far = Math.abs(other % c.wide - cell % c.wide) + Math.abs(other / c.wide - cell / c.wide);
            if (far <= range) {
                seen.add(other);
            }
        }
        return seen;
    }

    int watch(int range, int what) {
        Coast c = coast();
        if (range < 0 || range > 7 || what < 0 || what > 3) {
            return NONE;
        }
        int[] best = {0, 0, 0};
        int crossed = 0;
        int mostRocks = 0;
        for (int a = 0; a < c.wide * c.high; a++) {
            int rocks = 0;
            Set<Integer> byA = seen(c, a, range);
            for (int cell : byA) {
                rocks += c.rocks.contains(spot(c, cell)) ? 1 : 0;
            }
            if (rocks > mostRocks) {
                mostRocks = rocks;
                crossed = a;
            }
            for (int b = a + 1; b < c.wide * c.high && what < 3; b++) {
                Set<Integer> both = new HashSet<>(byA);
                both.addAll(seen(c, b, range));
                if (both.size() > best[0]) {
                    best = new int[] {both.size(), a, b};
                }
            }
        }
        return what == 3 ? crossed : best[what];
    }

    // ---- what is asked of a coast as told

    int coast(int what) {
        Coast c = coast();
        if (what >= 0 && what < 6) {
            return new int[] {c.wide, c.high, c.cell(c.lampColumn, c.lampRow), c.limit, c.guards.size(), c.ships.size()}[what];
        }
        for (int g = 0; g < c.guards.size(); g++) {
            int[] guard = c.guards.get(g);
            if (what == 10 + g) {
                return c.cell(guard[0], guard[1]);
            }
            if (what == 20 + g) {
                return guard[2];
            }
        }
        for (int s = 0; s < c.ships.size(); s++) {
            Ship ship = c.ships.get(s);
            int[] told = {c.cell(ship.column, ship.row), ship.cargo, ship.children, ship.men.size()};
            for (int k = 0; k < 4; k++) {
                if (what == 30 + 10 * k + s) {
                    return told[k];
                }
            }
        }
        if (what >= 100 && what < 100 + c.wide * c.high) {
            return c.rocks.contains(spot(c, what - 100)) ? 1 : 0;
        }
        return NONE;
    }

    private Ship shipAt(Coast c, int ship) {
        return ship < 0 || ship >= c.ships.size() ? null : c.ships.get(ship);
    }

    int man(int ship, int man, int what) {
        Ship s = shipAt(coast(), ship);
        if (s == null || man < 0 || man >= s.men.size() || what < 0 || what > 2) {
            return NONE;
        }
        Man m = s.men.get(man);
        return new int[] {KINDS.indexOf(m.kind), m.first, m.second}[what];
    }

    int light(int ship, int hour, int what) {
        Coast c = coast();
        Ship s = shipAt(c, ship);
        if (s == null || hour < 0 || hour > 23) {
            return NONE;
        }
        if (what >= 0 && what < 3) {
            return new int[] {harm(c, s, hour), glow(c, s, hour), lit(c, s, hour) ? 1 : 0}[what];
        }
        return what >= 10 && what < 10 + s.men.size() ? meant(c, s, s.men.get(what - 10), hour) : NONE;
    }

    int hours(int ship, int what) {
        Coast c = coast();
        Ship s = shipAt(c, ship);
        if (s == null || what < 0 || what > 4) {
            return NONE;
        }
        int[] told = new int[5];
        StringBuilder rows = new StringBuilder();
        for (int hour = 0; hour < 24; hour++) {
            told[0] |= lit(c, s, hour) ? 1 << hour : 0;
            told[1] |= glow(c, s, hour) == 1 ? 1 << hour : 0;
            told[4] += glow(c, s, hour) == 2 ? 1 : 0;
            told[3] = harm(c, s, hour) > harm(c, s, told[3]) ? hour : told[3];
            rows.append(lit(c, s, hour) ? ' ' : 'd');
        }
        for (String row : rows.toString().split(" ")) {
            told[2] = Math.max(told[2], row.length());
        }
        return told[what];
    }

    int shade(int ship) {
        Coast c = coast();
        Ship s = shipAt(c, ship);
        if (s == null) {
            return NONE;
        }
        int right = Integer.signum(s.column - c.lampColumn);
        int down = Integer.signum(s.row - c.lampRow);
        int cells = 0;
        if (right * down == 0 && right + down != 0) {
            for (int k = 1; k < 8; k++) {
                int column = s.column + k * right;
                int row = s.row + k * down;
                cells += column >= 0 && row >= 0 && column < c.wide && row < c.high ? 1 : 0;
            }
        }
        return cells;
    }

    int mutiny(int ship, int hour, boolean worst) {
        Coast c = coast();
        Ship s = shipAt(c, ship);
        if (s == null || s.men.isEmpty() || hour < 0 || hour > 23) {
            return NONE;
        }
        int bits = 0;
        int most = 0;
        for (int k = 0; k < s.men.size(); k++) {
            int m = meant(c, s, s.men.get(k), hour);
            bits |= m > meant(c, s, s.men.get(0), hour) ? 1 << k : 0;
            most = m > meant(c, s, s.men.get(most), hour) ? k : most;
        }
        return worst ? most : bits;
    }

    // ---- logs

    private static boolean shines(Log l, int set, int hour) {
        int harm = Integer.bitCount(set);
        if (harm < l.limit) {
            return false;
        }
        return harm == l.men.size() || hour % 2 == 0;
    }

    int log(int what) {
        Log l = log();
        if (what >= 0 && what < 4) {
            return new int[] {l.men.size(), l.limit, l.errors, l.facts.size()}[what];
        }
        if (what >= 10 && what < 10 + l.men.size()) {
            return l.men.get(what - 10);
        }
        if (what >= 20 && what < 20 + l.facts.size()) {
            return l.facts.get(what - 20)[0];
        }
        return what >= 30 && what < 30 + l.facts.size() ? l.facts.get(what - 30)[1] : NONE;
    }

    int fits(int what) {
        Log l = log();
        List<Integer> sets = new ArrayList<>();
        int sure = 63;
        for (int set = 0; set < 1 << l.men.size(); set++) {
            boolean fits = true;
            for (int[] fact : l.facts) {
                fits &= shines(l, set, fact[1]) == (fact[0] == 1);
            }
            if (fits) {
                sets.add(set);
                sure &= set;
            }
        }
        if (what == 0) {
            return sets.size();
        }
        if (what == 1) {
            return sets.isEmpty() ? NONE : sure;
        }
        if (what == 2) {
            int ask = NONE;
            int least = 65;
            for (int hour = 0; hour < 24 && !sets.isEmpty(); hour++) {
                int lit = 0;
                for (int set : sets) {
                    lit += shines(l, set, hour) ? 1 : 0;
                }
                int greater = Math.max(lit, sets.size() - lit);
                if (greater < least) {
                    least = greater;
                    ask = hour;
                }
            }
            return ask;
        }
        return what >= 10 && what < 10 + sets.size() ? sets.get(what - 10) : -2;
    }

    /** The likelihood of the sets with all of these men, lit at that hour (any, if NONE), over that of all. */
    private static long likely(Log l, int with, int hour, boolean under) {
        BigInteger part = BigInteger.ZERO;
        BigInteger whole = BigInteger.ZERO;
        for (int set = 0; set < 1 << l.men.size(); set++) {
            BigInteger weight = BigInteger.ONE;
            for (int k = 0; k < l.men.size(); k++) {
                int odds = l.men.get(k);
                weight = weight.multiply(BigInteger.valueOf((set >> k & 1) == 1 ? odds : 10 - odds));
            }
            for (int[] fact : l.facts) {
                boolean right = shines(l, set, fact[1]) == (fact[0] == 1);
                weight = weight.multiply(BigInteger.valueOf(right ? 10 - l.errors : l.errors));
            }
            whole = whole.add(weight);
            if ((set & with) == with && (hour == NONE || shines(l, set, hour))) {
                part = part.add(weight);
            }
        }
        if (whole.signum() == 0) {
            return under ? 1 : 0;
        }
        return (under ? whole : part).divide(part.gcd(whole)).longValueExact();
    }

    long belief(int man, boolean under) {
        Log l = log();
        return man < 0 || man >= l.men.size() ? NONE : likely(l, 1 << man, NONE, under);
    }

    long next(int hour, boolean under) {
        return hour < 0 || hour > 23 ? NONE : likely(log(), 0, hour, under);
    }

    long both(int a, int b, boolean under) {
        int men = log().men.size();
        if (a == b || a < 0 || b < 0 || a >= men || b >= men) {
            return NONE;
        }
        return likely(log(), 1 << a | 1 << b, NONE, under);
    }

    static long premium(int n, int p, int worth, boolean under) {
        if (n < 1 || n > 9 || p < 0 || p > 10 || worth < 0 || worth > 99) {
            return NONE;
        }
        BigInteger whole = BigInteger.TEN.pow(n);
        BigInteger part = BigInteger.ZERO;
        for (int night = 0; night < n; night++) {
            // struck in this night, in none before
            BigInteger now = BigInteger.valueOf(10 - p).pow(night).multiply(BigInteger.valueOf(p));
            part = part.add(now.multiply(BigInteger.TEN.pow(n - night - 1)));
        }
        part = part.multiply(BigInteger.valueOf(worth));
        return (under ? whole : part).divide(part.gcd(whole)).longValueExact();
    }
}
