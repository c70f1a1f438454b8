/** Promises 1 to 5 and 29 to 31: what changes what is told, what is refused, and that what is refused changes nothing. */
final class TellEdges {
    private static final int NONE = IllLight.NONE;
    private static final String COAST = "size 3 5;lamp 2 4;limit 7;rock 1 2;rock 0 4;guard 2 1 3;guard 0 0 0;"
        + "ship 1 3 8 2;plain 1;hired;ship 2 2 0 9;asleep;ship 0 0 5 0;late 6 4;divided 3;loyal 0;plain 0;";
    private static final String NIGHT = "go 0 0;mean 2 3 9;throw 2;hour;";
    private static final String LOG = "man 3;man 10;limit 2;errors 1;lit 22;dark 5;dark 0;man 0;";

    private final Edge e;

    TellEdges(Edge edge) {
        e = edge;
    }

    void run() {
        calls();
        constants();
        newObject();
        feed();
        feedBeyond();
        end();
        endRefused();
        text();
        textInThePlace();
        textFault();
        textRefused();
        fault();
        faultOfAnother();
        count();
        countOfAnother();
        image();
        imageOfAnother();
        again();
        againWithoutImage();
    }

    /** A COAST, a NIGHT and a LOG, each with number 0, and none with number 1. */
    static IllLight told() {
        IllLight x = Check.night(COAST, NIGHT);
        Check.tell(x, 2, NONE, LOG);
        return x;
    }

    private void calls() {
        e.says("An object is used for at most 512 calls after it has been made");
        IllLight x = new IllLight();
        for (int call = 0; call < 509; call++) {
            switch (call % 5) {
                case 0: x.feed(0x6C696D69, 0x7420373B, 0x20202020, 0x20202020, 0x20202020); break;
                case 1: x.text(0, call == 1 ? NONE : 0); break;
                case 2: x.image(call % 3); break;
                case 3: x.again(call % 3); break;
                default: x.drawn(0, call, 60, 0);
            }
        }
        e.due("the 510th", x.coast(0, 3), 7);
        e.due("the 511th", x.feed(0, 0, 0, 0, 0), 20);
        e.due("the 512th", x.text(1, NONE), NONE);
    }

    private void constants() {
        e.says("The constants: `NONE = -1`: There is none.");
        e.due("NONE", IllLight.NONE, -1);
    }

    private void newObject() {
        e.promise(1, "No COASTS, NIGHTS, LOGS; no images.");
        IllLight x = new IllLight();
        for (int sort = 0; sort < 3; sort++) {
            e.due("count " + sort, x.count(sort), 0);
            e.due("nothing to tell in the place of " + sort, x.text(sort, 0), -2);
        }
        e.due("coast", x.coast(0, 0), NONE);
        e.due("deed", x.deed(0, NONE, 0), -2);
        e.due("log", x.log(0, 0), NONE);
        for (int k = -1; k <= 3; k++) {
            e.due("image " + k, x.again(k), false);
        }
        e.due("no tape", x.end(1), NONE);
        e.due("no FAULT", x.fault(0), 0);
        e.due("no place", x.fault(1), NONE);
        IllLight other = told();
        e.due("another object is another one", other.count(0) + x.count(0), 1);
    }

    private void feed() {
        e.promise(2, "The tape: twenty bytes come behind it, of each number the highest first: how many it has.");
        IllLight x = new IllLight();
        e.due("behind none", x.feed(0x6C696D69, 0x7420373B, 0x6C696D69, 0x74203131, 0x3B6C616D), 20);
        e.due("behind twenty", x.feed(0x70203220, 0x333B2020, 0x20202020, 0x20202020, 0x2020200A), 40);
        e.due("read in this order", x.text(0, NONE), 0);
        e.due("LIMIT", x.coast(0, 3), 11);
        e.due("LAMP", x.coast(0, 2), 20);
        IllLight cut = new IllLight();
        cut.feed(0x6C696D69, 0x74000000, 0, 0, 0);
        cut.end(5);
        e.due("behind five", cut.feed(0x20343B20, 0x20202020, 0x20202020, 0x20202020, 0x20202020), 25);
        e.due("behind five", cut.text(0, NONE), 0);
        e.due("LIMIT", cut.coast(0, 3), 4);
        // bytes above 127 have no sign: each stands where it is put
        for (int at = 0; at < 20; at++) {
            int[] n = {0x20202020, 0x20202020, 0x20202020, 0x20202020, 0x20202020};
            n[at / 4] |= 0xFF << (24 - 8 * (at % 4));
            IllLight y = new IllLight();
            y.feed(n[0], n[1], n[2], n[3], n[4]);
            y.text(0, NONE);
            e.due("byte " + at, y.fault(1), at);
        }
    }

    private void feedBeyond() {
        e.promise(2, "NONE, and nothing comes, if there would be more than 600.");
        IllLight x = new IllLight();
        for (int k = 1; k <= 30; k++) {
            e.due("feed " + k, x.feed(0x20202020, 0x20202020, 0x20202020, 0x20202020, 0x20202020), 20 * k);
        }
        e.due("a 31st", x.feed(0, 0, 0, 0, 0), NONE);
        e.due("nothing came", x.end(601), NONE);
        e.due("nothing came", x.text(0, NONE), 0);
        for (int length = 579; length <= 600; length++) {
            IllLight y = new IllLight();
            Check.feed(y, 0, Check.times(length, " "));
            e.due("behind " + length, y.feed(0x3F3F3F3F, 0, 0, 0, 0), length <= 580 ? length + 20 : NONE);
            e.due("behind " + length, y.text(0, NONE), length <= 580 ? NONE : 0);
            e.due("the tape is free again", y.feed(0, 0, 0, 0, 0), 20);
        }
    }

    private void end() {
        e.promise(3, "The tape has its first n bytes alone: n.");
        IllLight x = new IllLight();
        e.due("0 of none", x.end(0), 0);
        x.feed(0x6C696D69, 0x74203131, 0x3B3F3F3F, 0x3F3F3F3F, 0x3F3F3F3F);
        e.due("20 of 20", x.end(20), 20);
        e.due("9 of 20", x.end(9), 9);
        e.due("9 of 9", x.end(9), 9);
        e.due("feed behind 9", x.feed(0x20203320, 0x20202020, 0x20202020, 0x20202020, 0x2020203B), 29);
        e.due("the cut bytes are not read", x.text(0, NONE), NONE);
        e.due("what came behind is", x.fault(1), 11);
        x.feed(0, 0, 0, 0, 0);
        e.due("0 of 20", x.end(0), 0);
        e.due("an empty text", x.text(0, NONE), 0);
        // a token ends with the tape, whatever bytes were behind it
        for (int n = 0; n <= 8; n++) {
            IllLight y = new IllLight();
            y.feed(0x6C696D69, 0x7431323B, 0x6C696D69, 0x7431323B, 0x20202020);
            y.end(n);
            e.due("the first " + n, y.text(0, NONE), n == 0 || n == 8 ? 0 : NONE);
            e.due("place in the first " + n, y.fault(1), n == 0 || n == 8 ? NONE : n < 5 ? 0 : n);
        }
        IllLight last = new IllLight();
        Check.feed(last, 0, Check.times(599, " ") + "1");
        e.due("a digit is the 600th", last.text(0, NONE), NONE);
        e.due("a digit is the 600th", last.fault(1), 599);
    }

    private void endRefused() {
        e.promise(3, "NONE if it has not so many, or n is below 0.");
        IllLight x = new IllLight();
        e.due("1 of none", x.end(1), NONE);
        e.due("-1 of none", x.end(-1), NONE);
        x.feed(0x6C696D69, 0x74203131, 0x3B202020, 0x20202020, 0x20202020);
        e.due("21 of 20", x.end(21), NONE);
        e.due("-1 of 20", x.end(-1), NONE);
        for (int n : Edge.FAR) {
            e.due(n + " of 20", x.end(n), NONE);
        }
        e.due("the tape stays", x.end(20), 20);
        e.due("9 of 20", x.end(9), 9);
        e.due("10 of 9: what was cut is gone", x.end(10), NONE);
        e.due("20 of 9", x.end(20), NONE);
        e.due("its bytes stay", x.text(0, NONE), 0);
        e.due("LIMIT", x.coast(0, 3), 11);
    }

    private void text() {
        e.promise(4, "The tape is taken (and is empty then) as a text of a sort, a further one (at NONE), or in the place of one: its number.");
        String[] texts = {"limit 2;", "hour;", "limit 2;"};
        for (int sort = 0; sort < 3; sort++) {
            IllLight x = new IllLight();
            for (int k = 0; k < 2; k++) {
                Check.feed(x, 0, texts[sort]);
                e.due("a further one", x.text(sort, NONE), k);
                e.due("the tape is empty", x.end(1), NONE);
                e.due("there are", x.count(sort), k + 1);
            }
            for (int k = 0; k < 2; k++) {
                Check.feed(x, 0, texts[sort]);
                e.due("in the place of " + k, x.text(sort, k), k);
                e.due("the tape is empty", x.end(1), NONE);
                e.due("there are", x.count(sort), 2);
            }
            e.due("an empty text", x.text(sort, 0), 0);
        }
    }

    private void textInThePlace() {
        e.promise(4, "or in the place of one");
        IllLight x = told();
        Check.tell(x, 0, NONE, COAST);
        Check.tell(x, 1, NONE, NIGHT);
        Check.tell(x, 2, NONE, LOG);
        e.due("of a COAST", Check.tell(x, 0, 0, ""), 0);
        e.due("nothing of the old one is left", describe(x, 0), "6 6 0 1 0 0");
        for (int cell = 0; cell < 36; cell++) {
            e.due("no ROCK is left", x.coast(0, 100 + cell), 0);
        }
        e.due("the other stays", describe(x, 1), "3 5 14 7 2 3");
        e.due("of a NIGHT", Check.tell(x, 1, 0, "hour;"), 0);
        e.due("its DEEDS", x.deed(0, NONE, 0), 1);
        e.due("the other stays", x.deed(1, NONE, 0), 4);
        e.due("of a LOG", Check.tell(x, 2, 0, ""), 0);
        int[] empty = {0, 1, 0, 0};
        int[] full = {3, 2, 1, 3};
        for (int what = 0; what < 4; what++) {
            e.due("of the LOG", x.log(0, what), empty[what]);
            e.due("of the other", x.log(1, what), full[what]);
        }
        // a SHIP told anew has no MEN of the old one
        Check.tell(x, 0, 1, "ship 0 0 0 0;");
        e.due("MEN", x.coast(1, 60), 0);
        e.due("a MAN", x.man(1, 0, 0, 0), NONE);
    }

    private static String describe(IllLight x, int coast) {
        StringBuilder all = new StringBuilder();
        for (int what = 0; what < 6; what++) {
            all.append(what == 0 ? "" : " ").append(x.coast(coast, what));
        }
        return all.toString();
    }

    private void textFault() {
        e.promise(4, "NONE: a FAULT.");
        String[] wrong = {"limit 3;limit 0;", "hour;hour", "limit 3;limit 0;"};
        for (int sort = 0; sort < 3; sort++) {
            IllLight x = told();
            Check.feed(x, 0, wrong[sort]);
            e.due("a further one", x.text(sort, NONE), NONE);
            e.due("there is none more", x.count(sort), 1);
            e.due("the tape is empty", x.end(1), NONE);
            e.due("in a place", Check.tell(x, sort, 0, wrong[sort]), NONE);
            e.due("the COAST stays", describe(x, 0), "3 5 14 7 2 3");
            e.due("the NIGHT stays", x.deed(0, NONE, 0), 4);
            e.due("the LOG stays", x.log(0, 1), 2);
            // nothing of a text with a FAULT is in the next one
            e.due("the next one", Check.tell(x, sort, NONE, ""), 1);
            e.due("LIMIT", x.coast(1, 3), sort == 0 ? 1 : NONE);
            e.due("DEEDS", x.deed(1, NONE, 0), sort == 1 ? 0 : -2);
            e.due("LIMIT", x.log(1, 1), sort == 2 ? 1 : NONE);
        }
    }

    private void refused(IllLight x, int sort, int at) {
        String call = "text " + sort + " " + at;
        Check.tell(x, 0, NONE, "?");
        e.due("a FAULT ahead of " + call, x.fault(0), x.count(0) == 2 ? 0 : 1);
        int coasts = x.count(0);
        int nights = x.count(1);
        int logs = x.count(2);
        Check.feed(x, 0, "limit 3;");
        e.due(call, x.text(sort, at), -2);
        e.due("FAULT behind " + call, x.fault(0), 0);
        e.due("place behind " + call, x.fault(1), NONE);
        e.due("the tape is empty behind " + call, x.feed(0, 0, 0, 0, 0), 20);
        x.end(0);
        e.due("COASTS behind " + call, x.count(0), coasts);
        e.due("NIGHTS behind " + call, x.count(1), nights);
        e.due("LOGS behind " + call, x.count(2), logs);
    }

    private void textRefused() {
        e.promise(4, "-2: there is none such, there are as many as may be, or no such sort (no text is read then, FAULT 0).");
        for (int sort = 0; sort < 3; sort++) {
            IllLight x = told();
            refused(x, sort, 1);
            refused(x, sort, 2);
            refused(x, sort, -2);
            for (int far : Edge.FAR) {
                refused(x, sort, far);
            }
            e.due("the COAST stays", describe(x, 0), "3 5 14 7 2 3");
            IllLight full = told();
            full.text(sort, NONE);
            refused(full, sort, NONE);
            refused(full, sort, 2);
            refused(full, sort, -2);
            e.due("the COAST stays", describe(full, 0), "3 5 14 7 2 3");
        }
        for (int at = -1; at < 2; at++) {
            IllLight x = told();
            refused(x, -1, at);
            refused(x, 3, at);
            for (int far : Edge.FAR) {
                refused(x, far, at);
            }
        }
    }

    private void fault() {
        e.promise(5, "Of the latest text(), what 0: the FAULT, 0 without, 1: its place, NONE without.");
        IllLight x = new IllLight();
        e.due("of none", x.fault(0), 0);
        e.due("of none", x.fault(1), NONE);
        String[] texts = {"limit 3;?", "limit 0;", Check.times(5, "guard 0 0 0;"), "plain 0;", "lamp 7 7;", "ship 0 0 0 0;loyal 1;", "", "?"};
        int[] faults = {1, 2, 3, 4, 5, 6, 0, 1};
        int[] places = {8, 6, 48, 0, 9, 21, NONE, 0};
        for (int k = 0; k < texts.length; k++) {
            Check.tell(x, 0, NONE, texts[k]);
            e.due("FAULT", x.fault(0), faults[k]);
            e.due("place", x.fault(1), places[k]);
        }
        x.feed(0, 0, 0, 0, 0);
        x.end(99);
        x.end(0);
        x.coast(7, 7);
        x.image(0);
        x.again(1);
        e.due("other calls leave it", x.fault(0), 1);
        e.due("other calls leave it", x.fault(1), 0);
    }

    private void faultOfAnother() {
        e.promise(5, "NONE for another what.");
        e.others("what", Edge.row(0, 1), NONE, IllLight::new, IllLight::fault);
        e.others("what, behind a FAULT", Edge.row(0, 1), NONE, () -> Check.coast("limit 3;?"), IllLight::fault);
    }

    private void count() {
        e.promise(29, "How many there are of a sort.");
        IllLight x = new IllLight();
        for (int k = 0; k <= 3; k++) {
            int many = Math.min(k, 2);
            for (int sort = 0; sort < 3; sort++) {
                e.due("of sort " + sort, x.count(sort), many);
            }
            for (int sort = 2; sort >= 0; sort--) {
                x.text(sort, NONE);
                e.due("one more of sort " + sort, x.count(sort), Math.min(k + 1, 2));
            }
        }
        e.due("with a FAULT none more", Check.coast("?").count(0), 0);
    }

    private void countOfAnother() {
        e.promise(29, "-2 for another one.");
        e.others("sort", Edge.row(0, 2), -2, TellEdges::told, IllLight::count);
        e.others("sort", Edge.row(0, 2), -2, IllLight::new, IllLight::count);
    }

    private void image() {
        e.promise(30, "Image k (0 .. 2) is all that is told (the tape, the FAULT, too), as it is now: true;");
        IllLight x = told();
        for (int k = 0; k < 3; k++) {
            Check.tell(x, 0, 0, "limit " + (k + 1) + ";");
            e.due("image " + k, x.image(k), true);
        }
        for (int k = 2; k >= 0; k--) {
            e.due("again " + k, x.again(k), true);
            e.due("LIMIT of image " + k, x.coast(0, 3), k + 1);
        }
        Check.tell(x, 0, 0, "limit 9;");
        e.due("a later image 1 strikes", x.image(1), true);
        Check.tell(x, 0, 0, "limit 10;");
        int[] limits = {1, 9, 3};
        for (int k = 0; k < 3; k++) {
            x.again(k);
            e.due("LIMIT of image " + k, x.coast(0, 3), limits[k]);
        }
        IllLight empty = new IllLight();
        e.due("an image of nothing", empty.image(0), true);
        empty.text(0, NONE);
        e.due("again", empty.again(0), true);
        e.due("no COAST", empty.count(0), 0);
        e.due("none such", empty.coast(0, 0), NONE);
        IllLight tape = new IllLight();
        Check.tell(tape, 0, NONE, "limit 99;");
        Check.feed(tape, 0, "limit 8;");
        tape.image(2);
        tape.end(0);
        tape.feed(0x3F3F3F3F, 0, 0, 0, 0);
        tape.text(0, NONE);
        tape.again(2);
        e.due("the FAULT", tape.fault(0), 2);
        e.due("its place", tape.fault(1), 6);
        e.due("the tape is so long", tape.end(9), NONE);
        e.due("and has these bytes", tape.text(0, NONE), 0);
        e.due("and has these bytes", tape.coast(0, 3), 8);
        IllLight full = new IllLight();
        Check.feed(full, 0, Check.times(592, " ") + "limit 4;");
        full.image(0);
        full.end(0);
        full.again(0);
        e.due("a full tape", full.feed(0, 0, 0, 0, 0), NONE);
        e.due("to its last byte", full.text(0, NONE), 0);
        e.due("to its last byte", full.coast(0, 3), 4);
    }

    private void imageOfAnother() {
        e.promise(30, "false for another k.");
        e.others("k", Edge.row(0, 2), 0, TellEdges::told, (x, k) -> x.image(k) ? 1 : 0);
        IllLight x = told();
        x.image(3);
        x.image(-1);
        e.due("none was kept", x.again(0) || x.again(1) || x.again(2), false);
    }

    private void again() {
        e.promise(31, "All that is as image k has it (other images stay): true;");
        IllLight x = told();
        x.image(1);
        Check.tell(x, 0, 0, "");
        Check.tell(x, 0, NONE, "");
        Check.tell(x, 1, 0, "");
        Check.tell(x, 2, 0, "");
        x.image(2);
        e.due("again 1", x.again(1), true);
        e.due("the COAST", describe(x, 0), "3 5 14 7 2 3");
        e.due("COASTS", x.count(0), 1);
        e.due("the NIGHT", x.deed(0, NONE, 0), 4);
        e.due("a DEED", x.deed(0, 1, 3), 9);
        e.due("the LOG", x.log(0, 0), 3);
        e.due("a FACT", x.log(0, 30), 22);
        e.due("a ROCK", x.coast(0, 112), 1);
        e.due("a MAN", x.man(0, 2, 0, 2), 4);
        // what is told behind it is not in the image
        Check.tell(x, 0, 0, "limit 4;");
        Check.tell(x, 1, 0, "hour;");
        Check.tell(x, 2, 0, "man 1;");
        e.due("again 1 once more", x.again(1), true);
        e.due("the COAST", describe(x, 0), "3 5 14 7 2 3");
        e.due("the NIGHT", x.deed(0, NONE, 0), 4);
        e.due("the LOG", x.log(0, 0), 3);
        e.due("the other image stays", x.again(2), true);
        e.due("COASTS", x.count(0), 2);
        e.due("the COAST", describe(x, 0), "6 6 0 1 0 0");
    }

    private void againWithoutImage() {
        e.promise(31, "false if there is none such.");
        IllLight x = told();
        x.image(1);
        Check.tell(x, 0, 0, "");
        e.due("image 0", x.again(0), false);
        e.due("image 2", x.again(2), false);
        e.due("image 3", x.again(3), false);
        e.due("image -1", x.again(-1), false);
        e.due("nothing has changed", describe(x, 0), "6 6 0 1 0 0");
        e.due("image 1", x.again(1), true);
        e.others("k", Edge.row(1, 1), 0, () -> withImage(1), (y, k) -> y.again(k) ? 1 : 0);
        e.others("k", Edge.row(0, -1), 0, TellEdges::told, (y, k) -> y.again(k) ? 1 : 0);
    }

    private static IllLight withImage(int k) {
        IllLight x = told();
        x.image(k);
        return x;
    }
}
