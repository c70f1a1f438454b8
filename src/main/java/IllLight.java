/**
 * Coasts with a lamp that goes out for honest ships, nights on them, and logs of what was seen.
 * Everything that is needed is made in the constructor and used again, so that no call makes an object.
 */
public final class IllLight {
    public static final int NONE = -1;

    /** What is answered where NONE is an answer of its own. */
    private static final int MISSING = -2;

    private static final int TAPE = 600;
    private static final int FED = 20;
    private static final int IMAGES = 3;
    private static final int DAY = 24;
    private static final int ALL_HOURS = 0xFFFFFF;
    private static final int LONGEST = 60;

    private static final int COASTS = 0;
    private static final int NIGHTS = 1;
    private static final int LOGS = 2;
    private static final int OF_A_SORT = 2;

    private static final int GUARDS = 4;
    private static final int SHIPS = 4;
    private static final int MEN = 4;
    private static final int DEEDS = 40;
    private static final int LOG_MEN = 6;
    private static final int FACTS = 10;

    private static final int PLAIN = 0;
    private static final int HIRED = 1;
    private static final int LATE = 2;
    private static final int DIVIDED = 3;
    private static final int ASLEEP = 4;
    private static final int LOYAL = 5;

    private static final int GO = 0;
    private static final int MEAN = 1;
    private static final int THROW = 2;
    private static final int HOUR = 3;

    private static final int UP = 0;
    private static final int RIGHT = 1;
    private static final int DOWN = 2;
    private static final int LEFT = 3;

    private static final int DARK = 0;
    private static final int FLICKERS = 1;
    private static final int STEADY = 2;

    private final Told now;
    private final Told[] images;
    private final boolean[] kept;
    private final Reader reader;
    private final Course course;
    private final Coast trial;
    private final Sea sea;

    public IllLight() {
        now = new Told();
        images = new Told[IMAGES];
        for (int k = 0; k < IMAGES; k++) {
            images[k] = new Told();
        }
        kept = new boolean[IMAGES];
        reader = new Reader();
        course = new Course();
        trial = new Coast();
        sea = new Sea();
    }

    public int feed(int a, int b, int c, int d, int e) {
        if (now.length + FED > TAPE) {
            return NONE;
        }
        now.put(a);
        now.put(b);
        now.put(c);
        now.put(d);
        now.put(e);
        return now.length;
    }

    public int end(int n) {
        if (n < 0 || n > now.length) {
            return NONE;
        }
        now.length = n;
        return n;
    }

    public int text(int sort, int at) {
        now.fault = 0;
        now.place = NONE;
        // The tape is taken whatever the answer is: a text that is refused isn't read, but is gone too.
        int taken = now.length;
        now.length = 0;
        int held = now.held(sort);
        boolean further = at == NONE;
        if (held == MISSING || (further ? held >= OF_A_SORT : at < 0 || at >= held)) {
            return MISSING;
        }
        reader.read(now.tape, taken, sort);
        now.fault = reader.fault;
        now.place = reader.place;
        if (reader.fault != 0) {
            return NONE;
        }
        int number = further ? held : at;
        now.take(reader, sort, number);
        return number;
    }

    public int fault(int what) {
        if (what == 0) {
            return now.fault;
        }
        return what == 1 ? now.place : NONE;
    }

    public int coast(int coast, int what) {
        Coast c = coastAt(coast);
        return c == null ? NONE : c.told(what);
    }

    public int man(int coast, int ship, int man, int what) {
        Coast c = coastAt(coast);
        if (c == null || !c.hasMan(ship, man)) {
            return NONE;
        }
        int at = MEN * ship + man;
        switch (what) {
            case 0:
                return c.kind[at];
            case 1:
                return c.first[at];
            case 2:
                return c.second[at];
            default:
                return NONE;
        }
    }

    public int deed(int night, int k, int what) {
        Night n = nightAt(night);
        if (n == null) {
            return MISSING;
        }
        if (k == NONE) {
            return what == 0 ? n.deeds : MISSING;
        }
        return n.told(k, what);
    }

    public int light(int coast, int ship, int hour, int what) {
        Coast c = coastAt(coast);
        if (c == null || !c.hasShip(ship) || !isHour(hour)) {
            return NONE;
        }
        switch (what) {
            case 0:
                return c.harm(ship, hour);
            case 1:
                return c.glow(ship, hour);
            case 2:
                return Coast.isLit(c.glow(ship, hour), hour) ? 1 : 0;
            default:
                int man = what < 10 ? NONE : what - 10;
                return c.hasMan(ship, man) ? c.meant(ship, man, hour) : NONE;
        }
    }

    public int stop(int coast, int night) {
        Coast c = coastAt(coast);
        Night n = nightAt(night);
        return c == null || n == null ? NONE : course.follow(c, n, n.deeds);
    }

    public int state(int coast, int night, int n, int what) {
        Coast c = coastAt(coast);
        Night deeds = nightAt(night);
        if (c == null || deeds == null || n < 0 || course.follow(c, deeds, n) < n) {
            return MISSING;
        }
        return course.told(what);
    }

    public int way(int coast, int ship, int cell) {
        Coast c = coastAt(coast);
        if (!isVoyage(c, ship, cell)) {
            return NONE;
        }
        sea.chart(c, ship, c.spotOf(cell));
        return sea.fewest(c.litHours(ship), 0, LONGEST);
    }

    public int free(int coast, int ship, int n, int what) {
        Coast c = coastAt(coast);
        if (c == null || !c.hasShip(ship) || !isLength(n)) {
            return NONE;
        }
        sea.chart(c, ship, c.spot[ship]);
        switch (what) {
            case 0:
                return sea.reached(c.litHours(ship), n);
            case 1:
                return sea.reached(ALL_HOURS, n);
            case 2:
                return sea.reached(0, n);
            default:
                return NONE;
        }
    }

    public int helps(int coast, int ship, int cell, int n, int what) {
        Coast c = coastAt(coast);
        if (!isVoyage(c, ship, cell) || !isLength(n)) {
            return NONE;
        }
        sea.chart(c, ship, c.spotOf(cell));
        switch (what) {
            case 0:
                return fewestMen(c, ship, n, true);
            case 1:
                return leastIll(c, ship, n);
            case 2:
                return leastThrown(c, ship, n);
            case 3:
                return firstOf(hoursToLeave(c, ship, n));
            case 4:
                return fewestMen(c, ship, n, false);
            default:
                return NONE;
        }
    }

    public int rest(int coast, int r, int k) {
        Coast c = coastAt(coast);
        if (c == null || !isRange(r)) {
            return NONE;
        }
        if (k == -2) {
            return Rows.safest(c, r);
        }
        return k == NONE ? Rows.rests(c, r) : Rows.restAt(c, r, k);
    }

    public long premium(int n, int p, int worth, boolean under) {
        if (n < 1 || n > 9 || p < 0 || p > 10 || worth < 0 || worth > 99) {
            return NONE;
        }
        long all = 1;
        long safe = 1;
        for (int night = 0; night < n; night++) {
            all *= 10;
            safe *= 10 - p;
        }
        return leastTerms(worth * (all - safe), all, under);
    }

    public int log(int log, int what) {
        Log l = logAt(log);
        return l == null ? NONE : l.told(what);
    }

    public int fits(int log, int what) {
        Log l = logAt(log);
        if (l == null) {
            return MISSING;
        }
        long fitting = l.fitting();
        switch (what) {
            case 0:
                return Long.bitCount(fitting);
            case 1:
                return l.sure(fitting);
            case 2:
                return l.hourToAsk(fitting);
            default:
                return what < 10 ? MISSING : l.setAt(fitting, what - 10);
        }
    }

    public long belief(int log, int man, boolean under) {
        Log l = logAt(log);
        if (l == null || !l.hasMan(man)) {
            return NONE;
        }
        return leastTerms(l.weightOf(1 << man, NONE), l.weightOf(0, NONE), under);
    }

    public int drawn(int coast, int seed, int n, int what) {
        Coast c = coastAt(coast);
        if (c == null || c.ships == 0 || !isLength(n)) {
            return MISSING;
        }
        course.draw(c, seed, n);
        return course.told(what);
    }

    public int hours(int coast, int ship, int what) {
        Coast c = coastAt(coast);
        if (c == null || !c.hasShip(ship)) {
            return NONE;
        }
        switch (what) {
            case 0:
                return c.litHours(ship);
            case 1:
                return c.hoursOf(ship, FLICKERS);
            case 2:
                return longestRow(ALL_HOURS & ~c.litHours(ship));
            case 3:
                return c.worstHour(ship);
            case 4:
                return Integer.bitCount(c.hoursOf(ship, STEADY));
            default:
                return NONE;
        }
    }

    public int shade(int coast, int ship) {
        Coast c = coastAt(coast);
        return c == null || !c.hasShip(ship) ? NONE : c.shaded(ship);
    }

    public int leaves(int coast, int ship, int cell, int n) {
        Coast c = coastAt(coast);
        if (!isVoyage(c, ship, cell) || !isLength(n)) {
            return NONE;
        }
        sea.chart(c, ship, c.spotOf(cell));
        return hoursToLeave(c, ship, n);
    }

    public int back(int coast, int ship, int cell) {
        Coast c = coastAt(coast);
        if (!isVoyage(c, ship, cell)) {
            return NONE;
        }
        sea.chart(c, ship, c.spotOf(cell));
        return sea.thereAndBack(c.litHours(ship), LONGEST);
    }

    public int watch(int coast, int range, int what) {
        Coast c = coastAt(coast);
        if (c == null || !isRange(range) || what < 0 || what > 3) {
            return NONE;
        }
        sea.look(c, range);
        if (what == 3) {
            return sea.bestFor(c.rocks);
        }
        int pair = sea.bestPair();
        if (what == 0) {
            return sea.seenByBoth(pair);
        }
        return what == 1 ? pair / 64 : pair % 64;
    }

    public int mutiny(int coast, int ship, int hour, boolean worst) {
        Coast c = coastAt(coast);
        if (c == null || !c.hasMan(ship, 0) || !isHour(hour)) {
            return NONE;
        }
        return worst ? c.worstMan(ship, hour) : c.mutineers(ship, hour);
    }

    public long next(int log, int hour, boolean under) {
        Log l = logAt(log);
        if (l == null || !isHour(hour)) {
            return NONE;
        }
        return leastTerms(l.weightOf(0, hour), l.weightOf(0, NONE), under);
    }

    public long both(int log, int a, int b, boolean under) {
        Log l = logAt(log);
        if (l == null || a == b || !l.hasMan(a) || !l.hasMan(b)) {
            return NONE;
        }
        return leastTerms(l.weightOf(1 << a | 1 << b, NONE), l.weightOf(0, NONE), under);
    }

    public int count(int sort) {
        return now.held(sort);
    }

    public boolean image(int k) {
        if (k < 0 || k >= IMAGES) {
            return false;
        }
        images[k].copyFrom(now);
        kept[k] = true;
        return true;
    }

    public boolean again(int k) {
        if (k < 0 || k >= IMAGES || !kept[k]) {
            return false;
        }
        now.copyFrom(images[k]);
        return true;
    }

    private Coast coastAt(int number) {
        return number < 0 || number >= now.held(COASTS) ? null : now.coasts[number];
    }

    private Night nightAt(int number) {
        return number < 0 || number >= now.held(NIGHTS) ? null : now.nights[number];
    }

    private Log logAt(int number) {
        return number < 0 || number >= now.held(LOGS) ? null : now.logs[number];
    }

    private static boolean isHour(int hour) {
        return hour >= 0 && hour < DAY;
    }

    private static boolean isLength(int n) {
        return n >= 0 && n <= LONGEST;
    }

    private static boolean isRange(int range) {
        return range >= 0 && range <= 7;
    }

    private static boolean isVoyage(Coast c, int ship, int cell) {
        return c != null && c.hasShip(ship) && c.spotOf(cell) != NONE;
    }

    /** A man who is not aboard means 0 and makes nothing flicker: he is as one ASLEEP, so one search does for both. */
    private int fewestMen(Coast c, int ship, int n, boolean aboard) {
        int men = c.men[ship];
        int all = (1 << men) - 1;
        for (int size = 0; size <= men; size++) {
            for (int set = 0; set <= all; set++) {
                if (Integer.bitCount(set) != size) {
                    continue;
                }
                trial.copyFrom(c);
                trial.lull(ship, aboard ? all & ~set : set);
                if (sea.comes(trial.litHours(ship), 0, n)) {
                    return set;
                }
            }
        }
        return NONE;
    }

    private int leastIll(Coast c, int ship, int n) {
        if (!c.hasMan(ship, 0)) {
            return NONE;
        }
        trial.copyFrom(c);
        for (int m = 0; m <= 9; m++) {
            trial.makePlain(ship, 0, m);
            if (sea.comes(trial.litHours(ship), 0, n)) {
                return m;
            }
        }
        return NONE;
    }

    private int leastThrown(Coast c, int ship, int n) {
        trial.copyFrom(c);
        for (int thrown = 0; thrown <= c.cargo[ship]; thrown++) {
            trial.cargo[ship] = c.cargo[ship] - thrown;
            if (sea.comes(trial.litHours(ship), 0, n)) {
                return thrown;
            }
        }
        return NONE;
    }

    private int hoursToLeave(Coast c, int ship, int n) {
        int lit = c.litHours(ship);
        int hours = 0;
        for (int hour = 0; hour < DAY; hour++) {
            if (sea.comes(lit, hour, n)) {
                hours |= 1 << hour;
            }
        }
        return hours;
    }

    private static int firstOf(int hours) {
        for (int hour = 0; hour < DAY; hour++) {
            if ((hours >> hour & 1) != 0) {
                return hour;
            }
        }
        return NONE;
    }

    private static int longestRow(int hours) {
        int longest = 0;
        int row = 0;
        for (int hour = 0; hour < DAY; hour++) {
            row = (hours >> hour & 1) != 0 ? row + 1 : 0;
            longest = Math.max(longest, row);
        }
        return longest;
    }

    private static long leastTerms(long part, long whole, boolean under) {
        if (whole == 0) {
            return under ? 1 : 0;
        }
        long divisor = commonDivisor(part, whole);
        if (divisor == 0) {
            return NONE;
        }
        return (under ? whole : part) / divisor;
    }

    private static long commonDivisor(long a, long b) {
        // Euclid's steps on longs are fewer than a hundred
        for (int step = 0; step < 1000 && b != 0; step++) {
            long left = a % b;
            a = b;
            b = left;
        }
        return a;
    }

    /** All that is told: what an image keeps. */
    private static final class Told {
        final int[] tape = new int[TAPE];
        int length;
        int fault;
        int place = NONE;
        final int[] held = new int[3];
        final Coast[] coasts = new Coast[OF_A_SORT];
        final Night[] nights = new Night[OF_A_SORT];
        final Log[] logs = new Log[OF_A_SORT];

        Told() {
            for (int k = 0; k < OF_A_SORT; k++) {
                coasts[k] = new Coast();
                nights[k] = new Night();
                logs[k] = new Log();
            }
        }

        int held(int sort) {
            return sort < 0 || sort >= held.length ? MISSING : held[sort];
        }

        void put(int number) {
            for (int shift = 24; shift >= 0 && length < TAPE; shift -= 8) {
                tape[length] = number >>> shift & 255;
                length++;
            }
        }

        void take(Reader reader, int sort, int number) {
            if (number < 0 || number >= OF_A_SORT || held(sort) == MISSING) {
                return;
            }
            if (sort == COASTS) {
                coasts[number].copyFrom(reader.coast);
            } else if (sort == NIGHTS) {
                nights[number].copyFrom(reader.night);
            } else {
                logs[number].copyFrom(reader.log);
            }
            held[sort] = Math.max(held[sort], number + 1);
        }

        void copyFrom(Told other) {
            System.arraycopy(other.tape, 0, tape, 0, TAPE);
            length = other.length;
            fault = other.fault;
            place = other.place;
            System.arraycopy(other.held, 0, held, 0, held.length);
            for (int k = 0; k < OF_A_SORT; k++) {
                coasts[k].copyFrom(other.coasts[k]);
                nights[k].copyFrom(other.nights[k]);
                logs[k].copyFrom(other.logs[k]);
            }
        }
    }

    /**
     * A coast. A cell's number depends on WIDE, which may be told after the cell; so cells are held as spots,
     * 8 times row and column, which also makes a set of cells the bits of one long.
     */
    private static final class Coast {
        int wide = 6;
        int high = 6;
        int lamp;
        int limit = 1;
        long rocks;
        int guards;
        final int[] guardSpot = new int[GUARDS];
        final int[] guardRange = new int[GUARDS];
        int ships;
        final int[] spot = new int[SHIPS];
        final int[] cargo = new int[SHIPS];
        final int[] children = new int[SHIPS];
        final int[] men = new int[SHIPS];
        final int[] kind = new int[SHIPS * MEN];
        final int[] first = new int[SHIPS * MEN];
        final int[] second = new int[SHIPS * MEN];

        void clear() {
            wide = 6;
            high = 6;
            lamp = 0;
            limit = 1;
            rocks = 0;
            guards = 0;
            ships = 0;
        }

        void copyFrom(Coast other) {
            wide = other.wide;
            high = other.high;
            lamp = other.lamp;
            limit = other.limit;
            rocks = other.rocks;
            guards = other.guards;
            ships = other.ships;
            System.arraycopy(other.guardSpot, 0, guardSpot, 0, GUARDS);
            System.arraycopy(other.guardRange, 0, guardRange, 0, GUARDS);
            System.arraycopy(other.spot, 0, spot, 0, SHIPS);
            System.arraycopy(other.cargo, 0, cargo, 0, SHIPS);
            System.arraycopy(other.children, 0, children, 0, SHIPS);
            System.arraycopy(other.men, 0, men, 0, SHIPS);
            System.arraycopy(other.kind, 0, kind, 0, SHIPS * MEN);
            System.arraycopy(other.first, 0, first, 0, SHIPS * MEN);
            System.arraycopy(other.second, 0, second, 0, SHIPS * MEN);
        }

        void addGuard(int guard, int range) {
            if (guards < GUARDS) {
                guardSpot[guards] = guard;
                guardRange[guards] = range;
                guards++;
            }
        }

        void addShip(int ship, int itsCargo, int itsChildren) {
            if (ships < SHIPS) {
                spot[ships] = ship;
                cargo[ships] = itsCargo;
                children[ships] = itsChildren;
                men[ships] = 0;
                ships++;
            }
        }

        void addMan(int hisKind, int hisFirst, int hisSecond) {
            int ship = ships - 1;
            if (hasShip(ship) && men[ship] < MEN) {
                int at = MEN * ship + men[ship];
                kind[at] = hisKind;
                first[at] = hisFirst;
                second[at] = hisSecond;
                men[ship]++;
            }
        }

        boolean hasShip(int ship) {
            return ship >= 0 && ship < ships;
        }

        boolean hasMan(int ship, int man) {
            return ship >= 0 && ship < ships && man >= 0 && man < men[ship];
        }

        int cells() {
            return wide * high;
        }

        int spotOf(int cell) {
            if (wide < 1 || cell < 0 || cell >= cells()) {
                return NONE;
            }
            return cell / wide * 8 + cell % wide;
        }

        int cellOf(int place) {
            return place < 0 ? NONE : (place >> 3) * wide + (place & 7);
        }

        long board() {
            long row = (1L << wide) - 1;
            long all = 0;
            for (int r = 0; r < high; r++) {
                all |= row << (8 * r);
            }
            return all;
        }

        long guarded() {
            long board = board();
            long all = 0;
            for (int g = 0; g < guards; g++) {
                all |= Sea.around(guardSpot[g], guardRange[g], board);
            }
            return all;
        }

        int told(int what) {
            switch (what) {
                case 0:
                    return wide;
                case 1:
                    return high;
                case 2:
                    return cellOf(lamp);
                case 3:
                    return limit;
                case 4:
                    return guards;
                case 5:
                    return ships;
                default:
                    if (what < 10) {
                        return NONE;
                    }
                    return what < 100 ? toldOfOne(what / 10, what % 10) : toldOfRock(what - 100);
            }
        }

        private int toldOfOne(int which, int k) {
            if (which == 1 || which == 2) {
                if (k >= guards) {
                    return NONE;
                }
                return which == 1 ? cellOf(guardSpot[k]) : guardRange[k];
            }
            if (!hasShip(k)) {
                return NONE;
            }
            switch (which) {
                case 3:
                    return cellOf(spot[k]);
                case 4:
                    return cargo[k];
                case 5:
                    return children[k];
                case 6:
                    return men[k];
                default:
                    return NONE;
            }
        }

        private int toldOfRock(int cell) {
            int place = spotOf(cell);
            if (place == NONE) {
                return NONE;
            }
            return (rocks >>> place & 1) != 0 ? 1 : 0;
        }

        int meant(int ship, int man, int hour) {
            if (ship < 0 || ship >= ships || man < 0 || man >= men[ship]) {
                return 0;
            }
            int captain = MEN * ship;
            int at = kind[captain + man] == HIRED ? captain : captain + man;
            switch (kind[at]) {
                case PLAIN:
                    return first[at];
                case LATE:
                    return hour < second[at] ? first[at] : 0;
                case DIVIDED:
                    return hour % 2 == 0 ? first[at] : 0;
                case LOYAL:
                    return first[at] >= 0 && first[at] < ships ? cargo[first[at]] : 0;
                default:
                    return 0;
            }
        }

        int harm(int ship, int hour) {
            if (!hasShip(ship)) {
                return 0;
            }
            int harm = cargo[ship] - 2 * children[ship];
            for (int man = 0; man < men[ship]; man++) {
                harm += meant(ship, man, hour);
            }
            return Math.max(harm, 0);
        }

        int glow(int ship, int hour) {
            if (!hasShip(ship) || harm(ship, hour) < limit) {
                return DARK;
            }
            for (int man = 0; man < men[ship]; man++) {
                if (kind[MEN * ship + man] != ASLEEP && meant(ship, man, hour) == 0) {
                    return FLICKERS;
                }
            }
            return STEADY;
        }

        static boolean isLit(int glow, int hour) {
            return glow == STEADY || glow == FLICKERS && hour % 2 == 0;
        }

        int hoursOf(int ship, int glow) {
            int hours = 0;
            for (int hour = 0; hour < DAY; hour++) {
                if (glow(ship, hour) == glow) {
                    hours |= 1 << hour;
                }
            }
            return hours;
        }

        int litHours(int ship) {
            int hours = 0;
            for (int hour = 0; hour < DAY; hour++) {
                if (isLit(glow(ship, hour), hour)) {
                    hours |= 1 << hour;
                }
            }
            return hours;
        }

        int worstHour(int ship) {
            int worst = 0;
            for (int hour = 1; hour < DAY; hour++) {
                if (harm(ship, hour) > harm(ship, worst)) {
                    worst = hour;
                }
            }
            return worst;
        }

        int mutineers(int ship, int hour) {
            int bits = 0;
            for (int man = 1; man < MEN && hasMan(ship, man); man++) {
                if (meant(ship, man, hour) > meant(ship, 0, hour)) {
                    bits |= 1 << man;
                }
            }
            return bits;
        }

        int worstMan(int ship, int hour) {
            int worst = 0;
            for (int man = 1; man < MEN && hasMan(ship, man); man++) {
                if (meant(ship, man, hour) > meant(ship, worst, hour)) {
                    worst = man;
                }
            }
            return worst;
        }

        /** On which side of the lamp, numbered as directions are; NONE if in neither its row nor its column, or at it. */
        int side(int ship) {
            int right = (spot[ship] & 7) - (lamp & 7);
            int below = (spot[ship] >> 3) - (lamp >> 3);
            if (right == 0 && below != 0) {
                return below > 0 ? DOWN : UP;
            }
            if (below == 0 && right != 0) {
                return right > 0 ? RIGHT : LEFT;
            }
            return NONE;
        }

        int fromLamp(int ship) {
            return Math.abs((spot[ship] & 7) - (lamp & 7)) + Math.abs((spot[ship] >> 3) - (lamp >> 3));
        }

        int shaded(int ship) {
            switch (side(ship)) {
                case UP:
                    return spot[ship] >> 3;
                case RIGHT:
                    return wide - 1 - (spot[ship] & 7);
                case DOWN:
                    return high - 1 - (spot[ship] >> 3);
                case LEFT:
                    return spot[ship] & 7;
                default:
                    return 0;
            }
        }

        void makePlain(int ship, int man, int m) {
            if (hasMan(ship, man)) {
                kind[MEN * ship + man] = PLAIN;
                first[MEN * ship + man] = m;
            }
        }

        void lull(int ship, int bits) {
            for (int man = 0; man < MEN && hasMan(ship, man); man++) {
                if ((bits >> man & 1) != 0) {
                    kind[MEN * ship + man] = ASLEEP;
                }
            }
        }
    }

    private static final class Night {
        int deeds;
        final int[] kind = new int[DEEDS];
        final int[] numbers = new int[3 * DEEDS];

        void add(int itsKind, int a, int b, int c) {
            if (deeds < DEEDS) {
                kind[deeds] = itsKind;
                numbers[3 * deeds] = a;
                numbers[3 * deeds + 1] = b;
                numbers[3 * deeds + 2] = c;
                deeds++;
            }
        }

        void copyFrom(Night other) {
            deeds = other.deeds;
            System.arraycopy(other.kind, 0, kind, 0, DEEDS);
            System.arraycopy(other.numbers, 0, numbers, 0, 3 * DEEDS);
        }

        int told(int k, int what) {
            if (k < 0 || k >= deeds || what < 0 || what > 3) {
                return MISSING;
            }
            return what == 0 ? kind[k] : numbers[3 * k + what - 1];
        }
    }

    private static final class Log {
        int men;
        final int[] odds = new int[LOG_MEN];
        int limit = 1;
        int errors;
        int facts;
        final int[] lit = new int[FACTS];
        final int[] hour = new int[FACTS];

        void clear() {
            men = 0;
            limit = 1;
            errors = 0;
            facts = 0;
        }

        void copyFrom(Log other) {
            men = other.men;
            limit = other.limit;
            errors = other.errors;
            facts = other.facts;
            System.arraycopy(other.odds, 0, odds, 0, LOG_MEN);
            System.arraycopy(other.lit, 0, lit, 0, FACTS);
            System.arraycopy(other.hour, 0, hour, 0, FACTS);
        }

        void addMan(int ofTen) {
            if (men < LOG_MEN) {
                odds[men] = ofTen;
                men++;
            }
        }

        void addFact(int wasLit, int itsHour) {
            if (facts < FACTS) {
                lit[facts] = wasLit;
                hour[facts] = itsHour;
                facts++;
            }
        }

        boolean hasMan(int man) {
            return man >= 0 && man < men;
        }

        int told(int what) {
            switch (what) {
                case 0:
                    return men;
                case 1:
                    return limit;
                case 2:
                    return errors;
                case 3:
                    return facts;
                default:
                    return what < 10 ? NONE : toldOfOne(what / 10, what % 10);
            }
        }

        private int toldOfOne(int which, int k) {
            switch (which) {
                case 1:
                    return hasMan(k) ? odds[k] : NONE;
                case 2:
                    return k < facts ? lit[k] : NONE;
                case 3:
                    return k < facts ? hour[k] : NONE;
                default:
                    return NONE;
            }
        }

        private int sets() {
            return 1 << men;
        }

        private boolean shines(int set, int at) {
            int harm = Integer.bitCount(set);
            return harm >= limit && (harm == men || at % 2 == 0);
        }

        private boolean agrees(int set, int fact) {
            return shines(set, hour[fact]) == (lit[fact] == 1);
        }

        private boolean allAgree(int set) {
            for (int fact = 0; fact < facts; fact++) {
                if (!agrees(set, fact)) {
                    return false;
                }
            }
            return true;
        }

        /** At most 64 sets there are: bit k says that set k fits. */
        long fitting() {
            long bits = 0;
            for (int set = 0; set < sets(); set++) {
                if (allAgree(set)) {
                    bits |= 1L << set;
                }
            }
            return bits;
        }

        int sure(long fitting) {
            if (fitting == 0) {
                return NONE;
            }
            int common = sets() - 1;
            for (int set = 0; set < sets(); set++) {
                if ((fitting >>> set & 1) != 0) {
                    common &= set;
                }
            }
            return common;
        }

        int setAt(long fitting, int k) {
            int passed = 0;
            for (int set = 0; set < sets(); set++) {
                if ((fitting >>> set & 1) == 0) {
                    continue;
                }
                if (passed == k) {
                    return set;
                }
                passed++;
            }
            return MISSING;
        }

        int hourToAsk(long fitting) {
            int all = Long.bitCount(fitting);
            int best = NONE;
            int least = all + 1;
            for (int at = 0; at < DAY && all > 0; at++) {
                int shining = Long.bitCount(fitting & shiningAt(at));
                int greater = Math.max(shining, all - shining);
                if (greater < least) {
                    least = greater;
                    best = at;
                }
            }
            return best;
        }

        private long shiningAt(int at) {
            long bits = 0;
            for (int set = 0; set < sets(); set++) {
                if (shines(set, at)) {
                    bits |= 1L << set;
                }
            }
            return bits;
        }

        /** The weight of the sets with these men, lit at that hour if one is asked; at most 10 to the 16th. */
        long weightOf(int with, int at) {
            long sum = 0;
            for (int set = 0; set < sets(); set++) {
                if ((set & with) == with && (at == NONE || shines(set, at))) {
                    sum += weight(set);
                }
            }
            return sum;
        }

        private long weight(int set) {
            long weight = 1;
            for (int man = 0; man < men; man++) {
                weight *= (set >> man & 1) != 0 ? odds[man] : 10 - odds[man];
            }
            for (int fact = 0; fact < facts; fact++) {
                weight *= agrees(set, fact) ? 10 - errors : errors;
            }
            return weight;
        }
    }

    /** A night as it goes: a copy of the coast that changes deed by deed. */
    private static final class Course {
        private final Coast coast = new Coast();
        private int hour;
        private int gone;
        private int struck;
        private int caught;
        private int seed;

        private void begin(Coast told) {
            coast.copyFrom(told);
            hour = 0;
            gone = 0;
            struck = 0;
            caught = 0;
        }

        /** Does the first deeds as long as they can be, and answers how many it did. */
        int follow(Coast told, Night night, int most) {
            begin(told);
            int done = 0;
            while (done < most && done < night.deeds) {
                int deed = night.kind[done];
                int at = 3 * done;
                int ship = night.numbers[at];
                if (deed == HOUR ? !pass() : !act(deed, ship, night.numbers[at + 1], night.numbers[at + 2])) {
                    break;
                }
                done++;
            }
            return done;
        }

        void draw(Coast told, int first, int times) {
            begin(told);
            seed = first;
            for (int k = 0; k < times; k++) {
                int ship = below(coast.ships);
                int number = below(8);
                if (number < 4) {
                    act(GO, ship, number, NONE);
                } else if (number == 4) {
                    int man = below(MEN);
                    int m = below(10);
                    act(MEAN, ship, man, m);
                } else if (number == 5) {
                    act(THROW, ship, NONE, NONE);
                } else {
                    pass();
                }
            }
        }

        private int below(int n) {
            seed = seed * 1103515245 + 12345;
            return n < 1 ? 0 : (seed >>> 16) % n;
        }

        private boolean act(int deed, int ship, int b, int c) {
            if (!coast.hasShip(ship) || isLost(ship)) {
                return false;
            }
            switch (deed) {
                case GO:
                    return sail(ship, b);
                case MEAN:
                    coast.makePlain(ship, b, c);
                    return coast.hasMan(ship, b);
                case THROW:
                    return throwOut(ship);
                default:
                    return false;
            }
        }

        private boolean isLost(int ship) {
            return ((struck | caught) >> ship & 1) != 0;
        }

        private boolean sail(int ship, int direction) {
            int column = coast.spot[ship] & 7;
            int row = coast.spot[ship] >> 3;
            row += direction == UP ? -1 : direction == DOWN ? 1 : 0;
            column += direction == LEFT ? -1 : direction == RIGHT ? 1 : 0;
            if ((gone >> ship & 1) != 0 || row < 0 || row >= coast.high || column < 0 || column >= coast.wide) {
                return false;
            }
            coast.spot[ship] = 8 * row + column;
            gone |= 1 << ship;
            return true;
        }

        private boolean throwOut(int ship) {
            if (coast.cargo[ship] == 0) {
                return false;
            }
            coast.cargo[ship]--;
            return true;
        }

        private boolean pass() {
            if (hour + 1 >= DAY) {
                return false;
            }
            int lit = beam();
            long guarded = coast.guarded();
            for (int ship = 0; ship < coast.ships; ship++) {
                if (isLost(ship)) {
                    continue;
                }
                boolean isLit = (lit >> ship & 1) != 0;
                long danger = isLit ? guarded : coast.rocks;
                if ((danger >>> coast.spot[ship] & 1) != 0) {
                    caught |= isLit ? 1 << ship : 0;
                    struck |= isLit ? 0 : 1 << ship;
                }
            }
            hour++;
            gone = 0;
            return true;
        }

        private int beam() {
            int lit = 0;
            for (int ship = 0; ship < coast.ships; ship++) {
                if (!isLost(ship) && Coast.isLit(coast.glow(whoseLight(ship), hour), hour)) {
                    lit |= 1 << ship;
                }
            }
            return lit;
        }

        private int whoseLight(int ship) {
            int side = coast.side(ship);
            int whose = ship;
            for (int other = 0; other < coast.ships && side != NONE; other++) {
                // the least of several stays, as only one that is nearer still takes its place
                if (!isLost(other) && coast.side(other) == side && coast.fromLamp(other) < coast.fromLamp(whose)) {
                    whose = other;
                }
            }
            return whose;
        }

        int told(int what) {
            switch (what) {
                case 0:
                    return hour;
                case 1:
                    return struck;
                case 2:
                    return caught;
                default:
                    if (what < 10) {
                        return MISSING;
                    }
                    return what < 50 ? toldOfShip(what / 10, what % 10) : toldOfMan((what - 50) / MEN, (what - 50) % MEN);
            }
        }

        private int toldOfShip(int which, int ship) {
            if (!coast.hasShip(ship)) {
                return MISSING;
            }
            switch (which) {
                case 1:
                    return isLost(ship) ? NONE : coast.cellOf(coast.spot[ship]);
                case 2:
                    return coast.cargo[ship];
                case 3:
                    return coast.harm(ship, hour);
                default:
                    return beam() >> ship & 1;
            }
        }

        private int toldOfMan(int ship, int man) {
            return coast.hasMan(ship, man) ? coast.meant(ship, man, hour) : MISSING;
        }
    }

    /** What a ship can come to, and what guards see: sets of spots, the bits of a long. */
    private static final class Sea {
        private static final long LEFT_EDGE = 0x0101010101010101L;
        private static final long RIGHT_EDGE = 0x8080808080808080L;

        private long board;
        private long safeIfLit;
        private long safeIfDark;
        private long from;
        private long goal;
        private int cells;
        private final long[] seen = new long[64];

        static long spread(long spots, long board) {
            long beside = (spots & ~RIGHT_EDGE) << 1 | (spots & ~LEFT_EDGE) >>> 1;
            return (spots | beside | spots << 8 | spots >>> 8) & board;
        }

        static long around(int spot, int range, long board) {
            long spots = 1L << spot;
            for (int k = 0; k < range; k++) {
                spots = spread(spots, board);
            }
            return spots;
        }

        void chart(Coast c, int ship, int goalSpot) {
            board = c.board();
            safeIfLit = board & ~c.guarded();
            safeIfDark = board & ~c.rocks;
            from = c.hasShip(ship) ? 1L << c.spot[ship] : 0;
            goal = 1L << goalSpot;
        }

        private long afterHour(long spots, int lit, int hour) {
            boolean isLit = (lit >> hour % DAY & 1) != 0;
            return spread(spots, board) & (isLit ? safeIfLit : safeIfDark);
        }

        int fewest(int lit, int begin, int most) {
            long spots = from;
            for (int passed = 0; passed <= most && spots != 0; passed++) {
                if ((spots & goal) != 0) {
                    return passed;
                }
                spots = afterHour(spots, lit, begin + passed);
            }
            return NONE;
        }

        boolean comes(int lit, int begin, int most) {
            return fewest(lit, begin, most) != NONE;
        }

        int reached(int lit, int most) {
            long spots = from;
            long all = from;
            for (int passed = 0; passed < most && spots != 0; passed++) {
                spots = afterHour(spots, lit, passed);
                all |= spots;
            }
            return Long.bitCount(all);
        }

        int thereAndBack(int lit, int most) {
            long spots = from;
            long afterGoal = from & goal;
            for (int passed = 0; passed <= most && spots != 0; passed++) {
                if ((afterGoal & from) != 0) {
                    return passed;
                }
                spots = afterHour(spots, lit, passed);
                afterGoal = afterHour(afterGoal, lit, passed) | spots & goal;
            }
            return NONE;
        }

        void look(Coast c, int range) {
            board = c.board();
            cells = Math.min(c.cells(), seen.length);
            for (int cell = 0; cell < cells; cell++) {
                seen[cell] = around(c.spotOf(cell), range, board);
            }
        }

        int bestFor(long wanted) {
            int best = 0;
            for (int cell = 1; cell < cells; cell++) {
                if (Long.bitCount(seen[cell] & wanted) > Long.bitCount(seen[best] & wanted)) {
                    best = cell;
                }
            }
            return best;
        }

        /** 64 times the first cell, and the second. */
        int bestPair() {
            int best = 1;
            int most = 0;
            for (int a = 0; a < cells; a++) {
                for (int b = a + 1; b < cells; b++) {
                    int sight = Long.bitCount(seen[a] | seen[b]);
                    if (sight > most) {
                        most = sight;
                        best = 64 * a + b;
                    }
                }
            }
            return best;
        }

        int seenByBoth(int pair) {
            int a = pair / 64;
            int b = pair % 64;
            return a < 0 || b < 0 || a >= cells || b >= cells ? 0 : Long.bitCount(seen[a] | seen[b]);
        }
    }

    /** A pirate and a guard who take rows of a coast. */
    private static final class Rows {
        private Rows() {
        }

        private static int prize(Coast c, int row) {
            long cells = c.board() & ~c.rocks;
            return Long.bitCount(cells >>> (8 * row) & 255);
        }

        private static int pirateWins(Coast c, int r, int pirate, int guard) {
            return Math.abs(pirate - guard) > r ? prize(c, pirate) : 0;
        }

        private static int guardWins(Coast c, int r, int pirate, int guard) {
            return Math.abs(pirate - guard) > r ? 0 : prize(c, pirate);
        }

        private static boolean isRest(Coast c, int r, int pirate, int guard) {
            int pirates = pirateWins(c, r, pirate, guard);
            int guards = guardWins(c, r, pirate, guard);
            for (int row = 0; row < c.high; row++) {
                if (pirateWins(c, r, row, guard) > pirates || guardWins(c, r, pirate, row) > guards) {
                    return false;
                }
            }
            return true;
        }

        static int rests(Coast c, int r) {
            int found = 0;
            for (int couple = 0; couple < 8 * c.high; couple++) {
                if (couple % 8 < c.high && isRest(c, r, couple / 8, couple % 8)) {
                    found++;
                }
            }
            return found;
        }

        static int restAt(Coast c, int r, int k) {
            int found = 0;
            for (int couple = 0; couple < 8 * c.high; couple++) {
                if (couple % 8 < c.high && isRest(c, r, couple / 8, couple % 8)) {
                    if (found == k) {
                        return couple;
                    }
                    found++;
                }
            }
            return NONE;
        }

        static int safest(Coast c, int r) {
            int best = 0;
            for (int row = 1; row < c.high; row++) {
                if (leastWon(c, r, row) > leastWon(c, r, best)) {
                    best = row;
                }
            }
            return best;
        }

        private static int leastWon(Coast c, int r, int pirate) {
            int least = 8;
            for (int guard = 0; guard < c.high; guard++) {
                least = Math.min(least, pirateWins(c, r, pirate, guard));
            }
            return least;
        }
    }

    /** Reads a tape once: whole tokens, so that a fault's place is a token's first byte. */
    private static final class Reader {
        private static final int END = 0;
        private static final int WORD = 1;
        private static final int NUMBER = 2;
        private static final int CLOSE = 3;
        private static final int NO_TOKEN = 4;

        private static final int SIZE = 0;
        private static final int LAMP = 1;
        private static final int ROCK = 2;
        private static final int GUARD = 3;
        private static final int SHIP = 4;
        private static final int LIMIT = 5;
        /** From here on words stand in the order of KINDS, from FIRST_DEED on in that of the deeds. */
        private static final int FIRST_KIND = 6;
        private static final int FIRST_DEED = 12;
        private static final int LOG_MAN = 16;
        private static final int LOG_LIMIT = 17;
        private static final int ERRORS = 18;
        private static final int WAS_LIT = 19;
        private static final int WAS_DARK = 20;

        /** The words of a sort begin at its entry and end ahead of the next one. */
        private static final int[] WORDS_OF_SORT = {0, 12, 16, 21};
        private static final int[] NUMBERS_OF_WORD = {2, 2, 2, 3, 4, 1, 1, 0, 2, 1, 0, 1, 2, 3, 1, 0, 1, 1, 1, 1, 1};
        private static final int[] MOST = {
            8, 8, 0, 0, 7, 7, 0, 0, 7, 7, 0, 0, 7, 7, 7, 0, 7, 7, 9, 9, 20, 0, 0, 0,
            9, 0, 0, 0, 0, 0, 0, 0, 9, 23, 0, 0, 9, 0, 0, 0, 0, 0, 0, 0, 3, 0, 0, 0,
            3, 3, 0, 0, 3, 3, 9, 0, 3, 0, 0, 0, 0, 0, 0, 0,
            10, 0, 0, 0, 6, 0, 0, 0, 9, 0, 0, 0, 23, 0, 0, 0, 23, 0, 0, 0
        };

        final Coast coast = new Coast();
        final Night night = new Night();
        final Log log = new Log();
        int fault;
        int place;

        private final int[] numbers = new int[4];
        private int token;
        private int from;
        private int to;
        private int farColumn;
        private int farRow;
        private int farShip;

        void read(int[] tape, int length, int sort) {
            begin();
            for (int lines = 0; lines <= TAPE; lines++) {
                advance(tape, length);
                if (token == END) {
                    break;
                }
                if (!readLine(tape, length, sort)) {
                    fault = 1;
                    place = from;
                    return;
                }
            }
            if (sort == COASTS) {
                lookForWhatIsNotThere(length);
            }
        }

        private void begin() {
            coast.clear();
            night.deeds = 0;
            log.clear();
            fault = 0;
            place = NONE;
            to = 0;
            farColumn = 0;
            farRow = 0;
            farShip = NONE;
        }

        /** Places only rise while the tape is read, so the first that is noted is the first by place. */
        private void note(int what, int where) {
            if (fault == 0) {
                fault = what;
                place = where;
            }
        }

        private void advance(int[] tape, int length) {
            from = to;
            while (from < length && (tape[from] == 10 || tape[from] == 32)) {
                from++;
            }
            to = from;
            if (from >= length) {
                token = END;
            } else if (isLetter(tape[from])) {
                while (to < length && isLetter(tape[to])) {
                    to++;
                }
                token = WORD;
            } else if (isDigit(tape[from])) {
                while (to < length && isDigit(tape[to])) {
                    to++;
                }
                token = to - from <= 2 ? NUMBER : NO_TOKEN;
            } else {
                to = from + 1;
                token = tape[from] == ';' ? CLOSE : NO_TOKEN;
            }
        }

        private static boolean isLetter(int sign) {
            return sign >= 'a' && sign <= 'z';
        }

        private static boolean isDigit(int sign) {
            return sign >= '0' && sign <= '9';
        }

        private boolean readLine(int[] tape, int length, int sort) {
            int word = token == WORD ? wordHere(tape, sort) : NONE;
            if (word == NONE) {
                return false;
            }
            noteTooMany(word);
            for (int k = 0; k < numbers.length; k++) {
                numbers[k] = NONE;
                if (k >= NUMBERS_OF_WORD[word]) {
                    continue;
                }
                advance(tape, length);
                if (token != NUMBER) {
                    return false;
                }
                numbers[k] = numberHere(tape);
                if (numbers[k] < least(word) || numbers[k] > MOST[4 * word + k]) {
                    note(2, from);
                }
            }
            advance(tape, length);
            if (token != CLOSE) {
                return false;
            }
            if (fault == 0) {
                tell(word);
            }
            return true;
        }

        private int wordHere(int[] tape, int sort) {
            if (sort < 0 || sort + 1 >= WORDS_OF_SORT.length) {
                return NONE;
            }
            for (int word = WORDS_OF_SORT[sort]; word < WORDS_OF_SORT[sort + 1]; word++) {
                if (isHere(tape, nameOf(word))) {
                    return word;
                }
            }
            return NONE;
        }

        private boolean isHere(int[] tape, String name) {
            if (name.length() != to - from) {
                return false;
            }
            for (int k = 0; k < name.length(); k++) {
                if (tape[from + k] != name.charAt(k)) {
                    return false;
                }
            }
            return true;
        }

        private static String nameOf(int word) {
            switch (word) {
                case SIZE: return "size";
                case LAMP: return "lamp";
                case ROCK: return "rock";
                case GUARD: return "guard";
                case SHIP: return "ship";
                case LIMIT: return "limit";
                case FIRST_KIND + PLAIN: return "plain";
                case FIRST_KIND + HIRED: return "hired";
                case FIRST_KIND + LATE: return "late";
                case FIRST_KIND + DIVIDED: return "divided";
                case FIRST_KIND + ASLEEP: return "asleep";
                case FIRST_KIND + LOYAL: return "loyal";
                case FIRST_DEED + GO: return "go";
                case FIRST_DEED + MEAN: return "mean";
                case FIRST_DEED + THROW: return "throw";
                case FIRST_DEED + HOUR: return "hour";
                case LOG_MAN: return "man";
                case LOG_LIMIT: return "limit";
                case ERRORS: return "errors";
                case WAS_LIT: return "lit";
                case WAS_DARK: return "dark";
                default: return "";
            }
        }

        private int numberHere(int[] tape) {
            int number = 0;
            for (int k = from; k < to; k++) {
                number = 10 * number + tape[k] - '0';
            }
            return number;
        }

        private static int least(int word) {
            if (word == SIZE) {
                return 2;
            }
            return word == LIMIT || word == LOG_LIMIT ? 1 : 0;
        }

        private static boolean isKind(int word) {
            return word >= FIRST_KIND && word < FIRST_DEED;
        }

        private static boolean isDeed(int word) {
            return word >= FIRST_DEED && word < LOG_MAN;
        }

        private void noteTooMany(int word) {
            int latest = coast.ships - 1;
            boolean many = word == GUARD && coast.guards == GUARDS
                || word == SHIP && coast.ships == SHIPS
                || isKind(word) && coast.hasShip(latest) && coast.men[latest] == MEN
                || isDeed(word) && night.deeds == DEEDS
                || word == LOG_MAN && log.men == LOG_MEN
                || (word == WAS_LIT || word == WAS_DARK) && log.facts == FACTS;
            if (many) {
                note(3, from);
            } else if (isKind(word) && coast.ships == 0) {
                note(4, from);
            }
        }

        private void tell(int word) {
            if (isDeed(word)) {
                night.add(word - FIRST_DEED, numbers[0], numbers[1], numbers[2]);
            } else if (word >= LOG_MAN) {
                tellLog(word);
            } else if (isKind(word)) {
                tellMan(word - FIRST_KIND);
            } else {
                tellCoast(word);
            }
        }

        private void tellMan(int kind) {
            coast.addMan(kind, Math.max(numbers[0], 0), Math.max(numbers[1], 0));
            if (kind == LOYAL) {
                farShip = Math.max(farShip, numbers[0]);
            }
        }

        private void tellCoast(int word) {
            if (word == SIZE) {
                coast.wide = numbers[0];
                coast.high = numbers[1];
                return;
            }
            if (word == LIMIT) {
                coast.limit = numbers[0];
                return;
            }
            int spot = 8 * numbers[1] + numbers[0];
            farColumn = Math.max(farColumn, numbers[0]);
            farRow = Math.max(farRow, numbers[1]);
            if (word == LAMP) {
                coast.lamp = spot;
            } else if (word == ROCK) {
                coast.rocks |= 1L << spot;
            } else if (word == GUARD) {
                coast.addGuard(spot, numbers[2]);
            } else {
                coast.addShip(spot, numbers[2], numbers[3]);
            }
        }

        private void tellLog(int word) {
            if (word == LOG_MAN) {
                log.addMan(numbers[0]);
            } else if (word == LOG_LIMIT) {
                log.limit = numbers[0];
            } else if (word == ERRORS) {
                log.errors = numbers[0];
            } else {
                log.addFact(word == WAS_LIT ? 1 : 0, numbers[0]);
            }
        }

        private void lookForWhatIsNotThere(int length) {
            if (farColumn >= coast.wide || farRow >= coast.high) {
                note(5, length);
            }
            if (farShip >= coast.ships) {
                note(6, length);
            }
        }
    }
}
