/** Terms 4 and, of terms 5, NEXT and BOTH: what follows from a LOG. */
final class LogEdges {
    private static final int NONE = IllLight.NONE;

    private final Edge e;

    LogEdges(Edge edge) {
        e = edge;
    }

    void run() {
        light();
        sets();
        theKth();
        sure();
        ask();
        belief();
        cantBeSo();
        next();
        both();
    }

    /** Which SETS FIT that it was LIT at that hour: bits by number. */
    private static long litSets(int men, int limit, int hour) {
        IllLight x = Check.log("limit " + limit + ";" + Check.times(men, "man 5;") + "lit " + hour + ";");
        long bits = 0;
        for (int k = 0; k < x.fits(0, 0); k++) {
            bits |= 1L << x.fits(0, 10 + k);
        }
        return bits;
    }

    private void light() {
        e.says("By a LOG: each of its MEN means 1 or 0; HARM is how many mean 1; it is DARK, if that is below LIMIT, else STEADY,"
            + " if all mean 1, else it FLICKERS (as above)");
        for (int men = 0; men <= 6; men++) {
            for (int limit = 1; limit <= 6; limit++) {
                long even = 0;
                long odd = 0;
                for (int set = 0; set < 1 << men; set++) {
                    int harm = Integer.bitCount(set);
                    even |= harm >= limit ? 1L << set : 0;
                    odd |= harm >= limit && harm == men ? 1L << set : 0;
                }
                String log = men + " MEN, LIMIT " + limit;
                e.due(log + ", hour 0", litSets(men, limit, 0), even);
                e.due(log + ", hour 1", litSets(men, limit, 1), odd);
                e.due(log + ", hour 22", litSets(men, limit, 22), even);
                e.due(log + ", hour 23", litSets(men, limit, 23), odd);
            }
        }
    }

    private void fitsOf(String log, int... dues) {
        IllLight x = Check.log(log);
        e.due("how many of '" + log + "'", x.fits(0, 0), dues.length);
        for (int k = 0; k < dues.length; k++) {
            e.due("the " + k + "-th of '" + log + "'", x.fits(0, 10 + k), dues[k]);
        }
        e.due("no further one of '" + log + "'", x.fits(0, 10 + dues.length), -2);
    }

    private void sets() {
        e.says("SETS of MEN (bits) who mean ill FIT, if all FACTS are so: how many");
        fitsOf("", 0);
        fitsOf("dark 0;dark 1;", 0);
        fitsOf("lit 0;");
        fitsOf("man 5;", 0, 1);
        fitsOf("man 5;lit 1;", 1);
        fitsOf("man 5;dark 1;", 0);
        fitsOf("man 5;lit 1;dark 1;");
        fitsOf("man 5;lit 1;dark 3;");
        fitsOf("man 5;man 5;lit 0;dark 1;", 1, 2);
        fitsOf("limit 2;man 5;man 5;man 5;lit 0;dark 1;", 3, 5, 6);
        fitsOf("limit 2;man 5;", 0, 1);
        fitsOf("limit 2;man 5;lit 0;");
        // odds and ERRORS are nothing to what FITS
        fitsOf("man 0;errors 9;lit 1;", 1);
        fitsOf("man 10;errors 9;dark 1;", 0);
        fitsOf("man 5;" + Check.times(9, "lit 1;") + "dark 1;");
        fitsOf("man 5;" + Check.times(10, "lit 1;"), 1);
        e.due("64 at most", Check.log(Check.times(6, "man 5;")).fits(0, 0), 64);
    }

    private void theKth() {
        e.says("the k-th, numbers rising");
        IllLight x = Check.log(Check.times(6, "man 5;"));
        for (int k = 0; k < 64; k++) {
            e.due("the " + k + "-th", x.fits(0, 10 + k), k);
        }
        e.due("no further one", x.fits(0, 74), -2);
    }

    private void sureOf(String log, int due) {
        e.due("SURE of '" + log + "'", Check.log(log).fits(0, 1), due);
    }

    private void sure() {
        e.says("SURE: who is in all (bits)");
        sureOf("", 0);
        sureOf("man 5;", 0);
        sureOf("man 5;dark 1;", 0);
        sureOf("man 5;man 5;", 0);
        sureOf("man 5;man 5;dark 0;", 0);
        sureOf("man 5;man 5;lit 1;", 3);
        sureOf("man 5;man 5;lit 0;", 0);
        sureOf("man 5;lit 0;", 1);
        sureOf("limit 6;" + Check.times(6, "man 5;") + "lit 0;", 63);
        sureOf("limit 5;" + Check.times(6, "man 5;") + "lit 0;", 0);
        sureOf("man 5;lit 1;dark 1;", NONE);
        sureOf("lit 0;", NONE);
    }

    private void askOf(String log, int due) {
        e.due("ASK of '" + log + "'", Check.log(log).fits(0, 2), due);
    }

    private void ask() {
        e.says("ASK: the hour, 0 to 23, for which the greater number of those that FIT, by which it is LIT or not, is least;"
            + " of several the least");
        askOf("", 0);
        // by two MEN it is LIT in even hours by 3 of 4, in odd ones by 1: 3 against 1 either way
        askOf("man 5;man 5;", 0);
        // of the three that FIT, all are LIT in even hours, one in odd ones
        askOf("man 5;man 5;lit 0;", 1);
        // of the three that FIT, two are LIT in even hours, none in odd ones
        askOf("man 5;man 5;dark 1;", 0);
        // only one FITS: 1 against 0 in all hours
        askOf("man 5;man 5;lit 1;", 0);
        // by three MEN and LIMIT 2: 4 of 8 in even hours
        askOf("limit 2;man 5;man 5;man 5;", 0);
        askOf("limit 2;man 5;man 5;man 5;lit 2;", 1);
        askOf("man 5;lit 1;dark 1;", NONE);
    }

    private void beliefOf(String log, int man, long over, long under) {
        IllLight x = Check.log(log);
        e.due("BELIEF in " + man + " by '" + log + "'", x.belief(0, man, false), over);
        e.due("BELIEF in " + man + " by '" + log + "', under", x.belief(0, man, true), under);
    }

    private void belief() {
        e.says("BELIEF in a MAN: how likely he means ill, each MAN by his odds, by himself, each FACT being wrong by ERRORS of ten,"
            + " by itself: a fraction in least terms");
        beliefOf("man 0;", 0, 0, 1);
        beliefOf("man 10;", 0, 1, 1);
        beliefOf("man 5;", 0, 1, 2);
        beliefOf("man 4;", 0, 2, 5);
        beliefOf("man 1;man 2;man 3;man 4;man 5;man 6;", 5, 3, 5);
        beliefOf("man 3;lit 1;", 0, 1, 1);
        beliefOf("man 3;dark 1;", 0, 0, 1);
        // 5 * 9 against 5 * 1
        beliefOf("man 5;errors 1;lit 1;", 0, 9, 10);
        beliefOf("man 5;errors 1;dark 1;", 0, 1, 10);
        // wrong by nine of ten: 5 * 1 against 5 * 9
        beliefOf("man 5;errors 9;lit 1;", 0, 1, 10);
        // with five of ten a FACT says nothing
        beliefOf("man 3;errors 5;lit 1;lit 1;lit 1;", 0, 3, 10);
        // 5 * 81 against 5 * 1: each FACT by itself, though it is one hour
        beliefOf("man 5;errors 1;lit 1;lit 1;", 0, 81, 82);
        beliefOf("man 5;errors 1;lit 1;dark 1;", 0, 1, 2);
        // LIT in an even hour: (50 + 40) of 100, if one of them means ill
        beliefOf("man 5;man 8;lit 0;", 0, 5, 9);
        beliefOf("man 5;man 8;lit 0;", 1, 8, 9);
        // 9 to the 10th and 1: all of ten FACTS are right, or all are wrong
        beliefOf("man 5;errors 1;" + Check.times(10, "lit 1;"), 0, 3486784401L, 3486784402L);
        // the greatest numbers: 10 to the 16th in all, no less by common divisors than they are
        String most = Check.times(6, "man 7;") + "errors 1;" + Check.times(10, "lit 1;");
        long all = 117649L * 3486784401L;
        beliefOf(most, 0, BigSum.over(all + 7 * 83193L, all + 882351L), BigSum.under(all + 7 * 83193L, all + 882351L));
    }

    private void cantBeSo() {
        e.says("(0 by 1, if the FACTS can't be so)");
        beliefOf("man 0;lit 1;", 0, 0, 1);
        beliefOf("man 10;dark 1;", 0, 0, 1);
        beliefOf("man 10;lit 1;dark 1;", 0, 0, 1);
        beliefOf("limit 2;man 10;lit 0;", 0, 0, 1);
        // with ERRORS they can be so
        beliefOf("man 10;errors 1;dark 1;", 0, 1, 1);
        beliefOf("limit 2;man 10;errors 1;lit 0;", 0, 1, 1);
        beliefOf("man 0;errors 1;lit 1;", 0, 0, 1);
    }

    private void nextOf(String log, int hour, long over, long under) {
        IllLight x = Check.log(log);
        e.due("NEXT of " + hour + " by '" + log + "'", x.next(0, hour, false), over);
        e.due("NEXT of " + hour + " by '" + log + "', under", x.next(0, hour, true), under);
    }

    private void next() {
        e.says("By a LOG: NEXT of an hour: how likely it is LIT then (by what it is, without ERRORS)");
        nextOf("", 0, 0, 1);
        nextOf("man 10;", 0, 1, 1);
        nextOf("man 10;", 23, 1, 1);
        nextOf("man 0;", 0, 0, 1);
        nextOf("man 10;man 0;", 22, 1, 1);
        nextOf("man 10;man 0;", 23, 0, 1);
        nextOf("limit 2;man 10;", 0, 0, 1);
        nextOf("man 5;man 2;", 0, 3, 5);
        nextOf("man 5;man 2;", 1, 1, 10);
        // ERRORS weigh the FACTS, but not what it will be
        nextOf("man 5;errors 1;lit 1;", 0, 9, 10);
        nextOf("man 5;errors 9;", 0, 1, 2);
        nextOf("man 10;errors 5;", 0, 1, 1);
        nextOf("man 10;dark 0;", 0, 0, 1);
    }

    private void bothOf(String log, int a, int b, long over, long under) {
        IllLight x = Check.log(log);
        e.due("BOTH " + a + " and " + b + " by '" + log + "'", x.both(0, a, b, false), over);
        e.due("BOTH " + a + " and " + b + " by '" + log + "', under", x.both(0, a, b, true), under);
    }

    private void both() {
        e.says("BOTH of two MEN (unlike ones): how likely both mean ill; each as BELIEF");
        bothOf("man 5;man 5;", 0, 1, 1, 4);
        bothOf("man 5;man 2;", 1, 0, 1, 10);
        bothOf("man 10;man 10;", 0, 1, 1, 1);
        bothOf("man 10;man 0;", 0, 1, 0, 1);
        bothOf("man 5;man 5;lit 1;", 0, 1, 1, 1);
        bothOf("man 5;man 5;lit 0;", 0, 1, 1, 3);
        bothOf("man 5;man 5;errors 1;lit 1;", 0, 1, 3, 4);
        bothOf("man 1;man 2;man 3;man 4;man 5;man 6;", 4, 5, 3, 10);
        bothOf("man 1;man 2;man 3;man 4;man 5;man 6;", 5, 0, 3, 50);
        bothOf("man 0;man 0;lit 1;", 0, 1, 0, 1);
        bothOf("man 5;man 5;", 0, 0, NONE, NONE);
        bothOf("man 5;man 5;", 1, 1, NONE, NONE);
    }
}
