/** One method for each promise: ordinary inputs, the edges that the document names, wrong inputs; answers by hand. */
public final class PromiseTest {
    private static final int NONE = IllLight.NONE;
    private static final int[] FAR = {Integer.MIN_VALUE, Integer.MIN_VALUE + 1, Integer.MAX_VALUE - 1, Integer.MAX_VALUE};
    private static final Check check = new Check();

    /** Rocks in the middle column; ship 0 is lit in even hours, ship 1 never. */
    private static final String ROCKY = "size 4 3;limit 3;rock 1 0;rock 1 1;rock 1 2;guard 3 0 1;"
        + "ship 0 1 0 0;divided 4;late 3 2;ship 0 2 2 0;plain 0;asleep;";

    private static void due(String call, long got, long want) {
        check.due(call, got, want);
    }

    private static void due(String call, boolean got, boolean want) {
        check.due(call, got, want);
    }

    private static void faultOf(int sort, String text, int fault, int place) {
        IllLight x = new IllLight();
        due("text of '" + text + "'", Check.tell(x, sort, NONE, text), fault == 0 ? 0 : NONE);
        due("fault of '" + text + "'", x.fault(0), fault);
        due("place of '" + text + "'", x.fault(1), place);
        due("count behind '" + text + "'", x.count(sort), fault == 0 ? 1 : 0);
    }

    public static void main(String[] args) {
        promise1();
        promise2();
        promise3();
        promise4();
        promise5();
        faultsOfTokens();
        faultsOfNumbers();
        faultsOfMany();
        faultsAtTheEnd();
        promise6();
        promise7();
        promise8();
        promise9();
        promise10();
        promise11();
        beam();
        promise12();
        promise13();
        promise14();
        promise15();
        promise16();
        promise17();
        promise18();
        promise19();
        promise20();
        promise21();
        promise22();
        promise23();
        promise24();
        promise25();
        promise26();
        promise27();
        promise28();
        promise29();
        promise30();
        promise31();
        constant();
        check.close();
    }

    private static void promise1() {
        IllLight x = new IllLight();
        for (int sort = 0; sort < 3; sort++) {
            due("1 count", x.count(sort), 0);
        }
        for (int k = 0; k < 3; k++) {
            due("1 again", x.again(k), false);
        }
        due("1 fault", x.fault(0), 0);
        due("1 place", x.fault(1), NONE);
        due("1 end", x.end(1), NONE);
        due("1 coast", x.coast(0, 0), NONE);
        due("1 deed", x.deed(0, NONE, 0), -2);
        due("1 log", x.log(0, 0), NONE);
    }

    private static void promise2() {
        IllLight x = new IllLight();
        for (int k = 1; k <= 29; k++) {
            due("2 feed", x.feed(0x20202020, 0x20202020, 0x20202020, 0x20202020, 0x20202020), 20 * k);
        }
        due("2 end 580", x.end(580), 580);
        due("2 feed to 600", x.feed(0x20202020, 0x20202020, 0x20202020, 0x20202020, 0x20202041), 600);
        due("2 feed beyond", x.feed(0, 0, 0, 0, 0), NONE);
        due("2 end 600", x.end(600), 600);
        due("2 text", x.text(0, NONE), NONE);
        due("2 the last byte stays", x.fault(1), 599);
        IllLight y = new IllLight();
        Check.feed(y, 0, Check.times(581, " "));
        due("2 feed beyond by one", y.feed(0, 0, 0, 0, 0), NONE);
        due("2 end 581", y.end(581), 581);
        due("2 end 582", y.end(582), NONE);
        IllLight z = new IllLight();
        due("2 highest first", z.feed(0x6C696D69, 0x7420373B, 0x20202020, 0x20200A0A, 0x0A0A2020), 20);
        due("2 text", z.text(0, NONE), 0);
        due("2 limit", z.coast(0, 3), 7);
        IllLight w = new IllLight();
        w.feed(-1, 0, 0, 0, 0);
        due("2 no sign", w.text(0, NONE), NONE);
        due("2 place", w.fault(1), 0);
    }

    private static void promise3() {
        IllLight x = new IllLight();
        due("3 end 0", x.end(0), 0);
        due("3 end 1", x.end(1), NONE);
        x.feed(0x6C696D69, 0x7420373B, 0x41414141, 0x41414141, 0x41414141);
        due("3 end -1", x.end(-1), NONE);
        due("3 end 21", x.end(21), NONE);
        due("3 end 20", x.end(20), 20);
        due("3 end 8", x.end(8), 8);
        due("3 end 9", x.end(9), NONE);
        due("3 text", x.text(0, NONE), 0);
        due("3 limit", x.coast(0, 3), 7);
        for (int n : FAR) {
            due("3 far", x.end(n), NONE);
        }
        x.feed(0x6C696D69, 0x74203333, 0x33333333, 0x33333333, 0x33333333);
        due("3 end 7", x.end(7), 7);
        due("3 nothing behind the end is read", x.text(0, NONE), NONE);
        due("3 the end's place", x.fault(1), 7);
    }

    private static void promise4() {
        IllLight x = new IllLight();
        for (int sort = 0; sort < 3; sort++) {
            due("4 none such", x.text(sort, 0), -2);
            due("4 first", x.text(sort, NONE), 0);
            due("4 none such", x.text(sort, 1), -2);
            due("4 second", x.text(sort, NONE), 1);
            due("4 as many as may be", x.text(sort, NONE), -2);
            due("4 in its place", x.text(sort, 1), 1);
            due("4 none such", x.text(sort, 2), -2);
            due("4 none such", x.text(sort, -2), -2);
            for (int at : FAR) {
                due("4 far", x.text(sort, at), -2);
                due("4 far sort", x.text(at, NONE), -2);
            }
            due("4 count", x.count(sort), 2);
        }
        due("4 no sort", x.text(3, NONE), -2);
        due("4 no sort", x.text(-1, NONE), -2);
        due("4 replaced", Check.tell(x, 0, 0, "limit 9;"), 0);
        due("4 limit", x.coast(0, 3), 9);
        due("4 the other", x.coast(1, 3), 1);
        due("4 the tape is empty", x.end(1), NONE);
        due("4 a fault", Check.tell(x, 0, 0, "limit 8;?"), NONE);
        due("4 the old one stays", x.coast(0, 3), 9);
        due("4 the tape is empty", x.end(1), NONE);
        Check.feed(x, 0, "limit 5;");
        due("4 none such", x.text(0, 2), -2);
        due("4 fault 0", x.fault(0), 0);
        due("4 taken all the same", x.end(1), NONE);
        Check.feed(x, 0, "limit 5;");
        due("4 as many as may be", x.text(0, NONE), -2);
        due("4 taken all the same", x.end(1), NONE);
        Check.feed(x, 0, "limit 5;");
        due("4 no sort", x.text(3, NONE), -2);
        due("4 taken all the same", x.feed(0, 0, 0, 0, 0), 20);
        due("4 cut", x.end(0), 0);
        due("4 only what came since", Check.tell(x, 0, 1, "limit 6;"), 1);
        due("4 limit", x.coast(1, 3), 6);
        due("4 the other stays", x.coast(0, 3), 9);
        IllLight y = Check.coast("size 3 4;lamp 1 1;limit 4;rock 0 0;guard 0 0 1;ship 0 0 0 0;plain 2;");
        due("4 all anew", y.text(0, 0), 0);
        due("4 size", y.coast(0, 0), 6);
        due("4 lamp", y.coast(0, 2), 0);
        due("4 limit", y.coast(0, 3), 1);
        due("4 guards", y.coast(0, 4), 0);
        due("4 ships", y.coast(0, 5), 0);
        due("4 rock", y.coast(0, 100), 0);
        IllLight z = Check.log("man 3;limit 4;errors 2;lit 3;");
        z.text(2, 0);
        for (int what = 0; what < 4; what++) {
            due("4 log anew", z.log(0, what), what == 1 ? 1 : 0);
        }
    }

    private static void promise5() {
        IllLight x = new IllLight();
        Check.tell(x, 0, NONE, "limit 2;\n  lamp 0;");
        due("5 fault", x.fault(0), 1);
        due("5 place", x.fault(1), 17);
        due("5 other", x.fault(2), NONE);
        due("5 other", x.fault(-1), NONE);
        x.text(9, 9);
        due("5 fault behind -2", x.fault(0), 0);
        due("5 place behind -2", x.fault(1), NONE);
        Check.tell(x, 0, NONE, "limit 21;");
        due("5 fault", x.fault(0), 2);
        x.text(0, NONE);
        due("5 fault behind a good one", x.fault(0), 0);
        due("5 place behind a good one", x.fault(1), NONE);
        for (int what : FAR) {
            due("5 far", x.fault(what), NONE);
        }
    }

    private static void faultsOfTokens() {
        faultOf(0, "", 0, NONE);
        faultOf(0, " \n ", 0, NONE);
        faultOf(0, "limit\n3\n;", 0, NONE);
        faultOf(0, "limit3;lamp1 2;", 0, NONE);
        faultOf(0, "limit 03;", 0, NONE);
        faultOf(0, "limit 003;", 1, 6);
        faultOf(0, "limit\t3;", 1, 5);
        faultOf(0, "Limit 3;", 1, 0);
        faultOf(0, " limits 3;", 1, 1);
        faultOf(0, "limi", 1, 0);
        faultOf(0, "limit", 1, 5);
        faultOf(0, "limit  ", 1, 7);
        faultOf(0, "limit 3", 1, 7);
        faultOf(0, "limit 3 4;", 1, 8);
        faultOf(0, "limit 3;;", 1, 8);
        faultOf(0, "limit -3;", 1, 6);
        faultOf(0, "limit " + (char) 233 + ";", 1, 6);
        faultOf(0, "hired 3;", 1, 6);
        faultOf(0, "go 0 0;", 1, 0);
        faultOf(0, "limit 99;limit", 1, 14);
        faultOf(0, "plain 1;asleep;x", 1, 15);
        faultOf(1, "hour;limit 2;", 1, 5);
        faultOf(1, "mean 1 1;", 1, 8);
        faultOf(2, "size 4 4;", 1, 0);
        faultOf(2, "lit 4;dark;", 1, 10);
        faultOf(2, "man 10;limit 6;errors 9;lit 23;dark 0;", 0, NONE);
    }

    private static void faultsOfNumbers() {
        faultOf(0, "size 2 2;size 8 8;limit 1;limit 20;lamp 7 7;rock 7 7;guard 7 7 7;ship 7 7 9 9;"
            + "plain 9;late 9 23;divided 9;loyal 0;", 0, NONE);
        faultOf(0, "size 1 2;", 2, 5);
        faultOf(0, "size 2 9;", 2, 7);
        faultOf(0, "size 9 1;", 2, 5);
        faultOf(0, "limit 0;", 2, 6);
        faultOf(0, "limit 21;", 2, 6);
        faultOf(0, "lamp 8 0;", 2, 5);
        faultOf(0, "rock 0 8;", 2, 7);
        faultOf(0, "guard 0 0 8;", 2, 10);
        faultOf(0, "ship 0 0 10 0;", 2, 9);
        faultOf(0, "ship 0 0 0 10;", 2, 11);
        faultOf(0, "ship 0 0 0 0;plain 10;", 2, 19);
        faultOf(0, "ship 0 0 0 0;divided 10;", 2, 21);
        faultOf(0, "ship 0 0 0 0;late 10 2;", 2, 18);
        faultOf(0, "ship 0 0 0 0;late 1 24;", 2, 20);
        faultOf(0, "ship 0 0 0 0;loyal 4;", 2, 19);
        faultOf(1, "go 3 3;mean 3 3 9;throw 3;hour;", 0, NONE);
        faultOf(1, "go 4 0;", 2, 3);
        faultOf(1, "go 0 4;", 2, 5);
        faultOf(1, "mean 4 0 0;", 2, 5);
        faultOf(1, "mean 0 4 0;", 2, 7);
        faultOf(1, "mean 0 0 10;", 2, 9);
        faultOf(1, "throw 4;", 2, 6);
        faultOf(2, "man 11;", 2, 4);
        faultOf(2, "limit 0;", 2, 6);
        faultOf(2, "limit 7;", 2, 6);
        faultOf(2, "errors 10;", 2, 7);
        faultOf(2, "lit 24;", 2, 4);
        faultOf(2, "dark 24;", 2, 5);
    }

    private static void faultsOfMany() {
        faultOf(0, Check.times(4, "guard 0 0 0;"), 0, NONE);
        faultOf(0, Check.times(5, "guard 0 0 0;"), 3, 48);
        faultOf(0, Check.times(5, "guard 0 0 0;") + "limit 99;", 3, 48);
        faultOf(0, "limit 99;" + Check.times(5, "guard 0 0 0;"), 2, 6);
        faultOf(0, Check.times(4, "ship 0 0 0 0;hired;hired;hired;hired;"), 0, NONE);
        faultOf(0, Check.times(5, "ship 0 0 0 0;"), 3, 52);
        faultOf(0, "ship 0 0 0 0;" + Check.times(5, "hired;"), 3, 37);
        faultOf(0, "ship 0 0 0 0;" + Check.times(4, "hired;") + "plain 77;", 3, 37);
        faultOf(0, "plain 77;", 4, 0);
        faultOf(0, "limit 2; asleep;ship 0 0 0 0;", 4, 9);
        faultOf(0, "ship 9 0 0 0;asleep;", 2, 5);
        faultOf(1, Check.times(40, "hour;"), 0, NONE);
        faultOf(1, Check.times(41, "hour;"), 3, 200);
        faultOf(2, Check.times(6, "man 1;"), 0, NONE);
        faultOf(2, Check.times(7, "man 1;"), 3, 36);
        faultOf(2, Check.times(5, "lit 1;dark 1;"), 0, NONE);
        faultOf(2, Check.times(5, "lit 1;dark 1;") + "dark 1;", 3, 65);
        faultOf(2, Check.times(5, "lit 1;dark 1;") + " lit 24;", 3, 66);
    }

    private static void faultsAtTheEnd() {
        faultOf(0, "lamp 6 0;", 5, 9);
        faultOf(0, "lamp 0 6; ", 5, 10);
        faultOf(0, "rock 5 5;", 0, NONE);
        faultOf(0, "rock 6 5;", 5, 9);
        faultOf(0, "guard 0 7 0;", 5, 12);
        faultOf(0, "ship 7 0 0 0;", 5, 13);
        faultOf(0, "lamp 7 7;size 8 8;", 0, NONE);
        faultOf(0, "size 8 8;lamp 7 7;size 8 7;", 5, 27);
        faultOf(0, "lamp 7 7;lamp 0 0;", 5, 18);
        faultOf(0, "ship 0 0 0 0;loyal 1;", 6, 21);
        faultOf(0, "ship 0 0 0 0;loyal 1;ship 1 1 1 1;", 0, NONE);
        faultOf(0, "ship 0 0 0 0;loyal 0;", 0, NONE);
        faultOf(0, "ship 7 0 0 0;loyal 3;", 5, 21);
        faultOf(0, "lamp 6 0;limit 0;", 2, 15);
    }

    private static void promise6() {
        IllLight x = Check.coast("size 3 5;lamp 2 4;limit 7;rock 1 2;rock 1 2;rock 0 4;guard 2 1 3;guard 0 0 0;"
            + "ship 1 3 8 2;plain 1;hired;ship 2 2 0 9;");
        int[] whats = {0, 1, 2, 3, 4, 5, 10, 11, 20, 21, 30, 31, 40, 41, 50, 51, 60, 61, 107, 112, 100, 114};
        int[] dues = {3, 5, 14, 7, 2, 2, 5, 0, 3, 0, 10, 8, 8, 0, 2, 9, 2, 0, 1, 1, 0, 0};
        for (int k = 0; k < whats.length; k++) {
            due("6 coast " + whats[k], x.coast(0, whats[k]), dues[k]);
        }
        int[] others = {6, 9, 12, 13, 19, 22, 29, 32, 42, 52, 62, 70, 80, 99, 115, 163, 200, -1, -10, -50};
        for (int what : others) {
            due("6 coast " + what, x.coast(0, what), NONE);
        }
        due("6 no coast", x.coast(1, 0), NONE);
        due("6 no coast", x.coast(-1, 0), NONE);
        for (int what : FAR) {
            due("6 far", x.coast(0, what), NONE);
            due("6 far", x.coast(what, 0), NONE);
        }
        IllLight y = Check.coast("lamp 1 1;size 4 4;size 3 3;lamp 2 1;limit 4;limit 2;");
        due("6 later ones strike", y.coast(0, 0), 3);
        due("6 later ones strike", y.coast(0, 2), 5);
        due("6 later ones strike", y.coast(0, 3), 2);
        IllLight z = new IllLight();
        z.text(0, NONE);
        int[] first = {6, 6, 0, 1, 0, 0};
        for (int what = 0; what < 6; what++) {
            due("6 at first", z.coast(0, what), first[what]);
        }
        due("6 last cell", z.coast(0, 135), 0);
        due("6 no cell", z.coast(0, 136), NONE);
    }

    private static void promise7() {
        IllLight x = Check.coast("ship 0 0 0 0;plain 7;hired;late 8 21;divided 6;ship 0 0 0 0;asleep;loyal 1;");
        int[][] dues = {{0, 0, 0, 7, 0}, {0, 1, 1, 0, 0}, {0, 2, 2, 8, 21}, {0, 3, 3, 6, 0}, {1, 0, 4, 0, 0}, {1, 1, 5, 1, 0}};
        for (int[] d : dues) {
            for (int what = 0; what < 3; what++) {
                due("7 man " + d[0] + " " + d[1] + " " + what, x.man(0, d[0], d[1], what), d[2 + what]);
            }
        }
        due("7 what", x.man(0, 0, 0, 3), NONE);
        due("7 what", x.man(0, 0, 0, -1), NONE);
        due("7 man", x.man(0, 0, 4, 0), NONE);
        due("7 man", x.man(0, 1, 2, 0), NONE);
        due("7 man", x.man(0, 1, -1, 0), NONE);
        due("7 ship", x.man(0, 2, 0, 0), NONE);
        due("7 ship", x.man(0, -1, 0, 0), NONE);
        due("7 coast", x.man(1, 0, 0, 0), NONE);
        for (int n : FAR) {
            due("7 far", x.man(n, 0, 0, 0), NONE);
            due("7 far", x.man(0, n, 0, 0), NONE);
            due("7 far", x.man(0, 0, n, 0), NONE);
            due("7 far", x.man(0, 0, 0, n), NONE);
        }
    }

    private static void promise8() {
        IllLight x = new IllLight();
        Check.tell(x, 1, NONE, "go 2 3;mean 1 3 9;throw 3;hour;");
        int[][] dues = {{0, 2, 3, NONE}, {1, 1, 3, 9}, {2, 3, NONE, NONE}, {3, NONE, NONE, NONE}};
        for (int k = 0; k < 4; k++) {
            for (int what = 0; what < 4; what++) {
                due("8 deed " + k + " " + what, x.deed(0, k, what), dues[k][what]);
            }
        }
        due("8 how many", x.deed(0, NONE, 0), 4);
        due("8 another what", x.deed(0, NONE, 1), -2);
        due("8 another what", x.deed(0, 0, 4), -2);
        due("8 another what", x.deed(0, 0, -1), -2);
        due("8 no deed", x.deed(0, 4, 0), -2);
        due("8 no deed", x.deed(0, -2, 0), -2);
        due("8 no night", x.deed(1, 0, 0), -2);
        due("8 no night", x.deed(1, NONE, 0), -2);
        x.text(1, NONE);
        due("8 no deeds", x.deed(1, NONE, 0), 0);
        due("8 none such", x.deed(1, 0, 0), -2);
        for (int n : FAR) {
            due("8 far", x.deed(n, 0, 0), -2);
            due("8 far", x.deed(0, n, 0), -2);
            due("8 far", x.deed(0, 0, n), -2);
        }
    }

    private static void promise9() {
        IllLight x = Check.coast("limit 4;ship 0 0 5 1;late 3 2;hired;divided 2;ship 0 0 9 0;hired;loyal 0;asleep;"
            + "ship 0 0 4 0;ship 0 0 3 9;plain 9;");
        // ship 0: 3 + 3 + 2 + 5 - 2 at hour 0; hour 1: 3 + 3 + 0 + 3; hour 2: 0 + 0 + 2 + 3; hour 3: 3
        int[][] ship0 = {{11, 2, 1}, {9, 1, 0}, {5, 1, 1}, {3, 0, 0}};
        for (int hour = 0; hour < 4; hour++) {
            for (int what = 0; what < 3; what++) {
                due("9 light " + hour + " " + what, x.light(0, 0, hour, what), ship0[hour][what]);
            }
        }
        due("9 late", x.light(0, 0, 1, 10), 3);
        due("9 late", x.light(0, 0, 2, 10), 0);
        due("9 hired", x.light(0, 0, 1, 11), 3);
        due("9 hired", x.light(0, 0, 2, 11), 0);
        due("9 divided", x.light(0, 0, 22, 12), 2);
        due("9 divided", x.light(0, 0, 23, 12), 0);
        // ship 1: a hired captain means 0; loyal to ship 0: 5; asleep: 0
        due("9 hired captain", x.light(0, 1, 0, 10), 0);
        due("9 loyal", x.light(0, 1, 0, 11), 5);
        due("9 asleep", x.light(0, 1, 0, 12), 0);
        due("9 harm", x.light(0, 1, 0, 0), 14);
        due("9 flickers", x.light(0, 1, 0, 1), 1);
        due("9 lit", x.light(0, 1, 0, 2), 1);
        due("9 lit", x.light(0, 1, 1, 2), 0);
        due("9 no men, at the limit", x.light(0, 2, 1, 1), 2);
        due("9 no men", x.light(0, 2, 1, 2), 1);
        due("9 children", x.light(0, 3, 0, 0), 0);
        due("9 no man", x.light(0, 2, 0, 10), NONE);
        due("9 no man", x.light(0, 0, 0, 13), NONE);
        due("9 what", x.light(0, 0, 0, 3), NONE);
        due("9 what", x.light(0, 0, 0, 9), NONE);
        due("9 what", x.light(0, 0, 0, -1), NONE);
        due("9 hour", x.light(0, 0, 24, 0), NONE);
        due("9 hour", x.light(0, 0, -1, 0), NONE);
        due("9 ship", x.light(0, 4, 0, 0), NONE);
        due("9 ship", x.light(0, -1, 0, 0), NONE);
        due("9 coast", x.light(1, 0, 0, 0), NONE);
        for (int n : FAR) {
            due("9 far", x.light(n, 0, 0, 0), NONE);
            due("9 far", x.light(0, n, 0, 0), NONE);
            due("9 far", x.light(0, 0, n, 0), NONE);
            due("9 far", x.light(0, 0, 0, n), NONE);
        }
        IllLight y = Check.coast("ship 0 0 3 0;plain 2;asleep;ship 0 0 0 0;plain 1;plain 0;");
        due("9 one asleep does not flicker", y.light(0, 0, 3, 1), 2);
        due("9 one who means 0 flickers", y.light(0, 1, 3, 1), 1);
    }

    private static int stopOf(String coast, String deeds) {
        return Check.night(coast, deeds).stop(0, 0);
    }

    private static void promise10() {
        String one = "size 2 2;ship 0 0 1 0;plain 1;";
        due("10 none", stopOf(one, ""), 0);
        due("10 all", stopOf(one, "go 0 1;mean 0 0 2;throw 0;hour;"), 4);
        due("10 off the top", stopOf(one, "go 0 0;"), 0);
        due("10 off the left", stopOf(one, "go 0 3;"), 0);
        due("10 off the right", stopOf(one, "go 0 1;hour;go 0 1;"), 2);
        due("10 off the bottom", stopOf(one, "go 0 2;hour;go 0 2;"), 2);
        due("10 twice an hour", stopOf(one, "go 0 1;go 0 3;"), 1);
        due("10 again in the next hour", stopOf(one, "go 0 1;hour;go 0 3;"), 3);
        due("10 no ship to go", stopOf(one, "go 1 1;"), 0);
        due("10 no ship to mean", stopOf(one, "mean 1 0 1;"), 0);
        due("10 no man", stopOf(one, "mean 0 1 1;"), 0);
        due("10 no ship to throw", stopOf(one, "throw 1;"), 0);
        due("10 no cargo", stopOf(one, "throw 0;throw 0;hour;"), 1);
        due("10 hours", stopOf(one, Check.times(24, "hour;")), 23);
        due("10 deeds behind hour 23", stopOf(one, Check.times(23, "hour;") + "go 0 1;throw 0;hour;"), 25);
        due("10 hours without ships", stopOf("", "hour;hour;go 0 0;"), 2);
        String lost = "size 3 2;rock 0 0;ship 0 0 5 9;plain 1;ship 1 1 0 0;";
        due("10 lost can't go", stopOf(lost, "hour;go 0 1;"), 1);
        due("10 lost can't mean", stopOf(lost, "hour;mean 0 0 1;"), 1);
        due("10 lost can't throw", stopOf(lost, "hour;throw 0;"), 1);
        due("10 the other goes on", stopOf(lost, "hour;go 1 1;"), 2);
        IllLight x = Check.night(one, "hour;");
        due("10 no coast", x.stop(1, 0), NONE);
        due("10 no night", x.stop(0, 1), NONE);
        for (int n : FAR) {
            due("10 far", x.stop(n, 0), NONE);
            due("10 far", x.stop(0, n), NONE);
        }
    }

    private static void promise11() {
        IllLight x = Check.night("size 4 3;limit 3;rock 0 1;guard 3 2 1;"
            + "ship 1 1 4 0;divided 2;hired;ship 3 1 2 0;plain 3;loyal 0;ship 0 2 0 0;late 5 1;",
            "go 0 3;throw 0;go 1 2;go 2 0;mean 0 0 1;hour;go 0 3;");
        due("11 begins", x.state(0, 0, 0, 0), 0);
        due("11 cell", x.state(0, 0, 0, 10), 5);
        due("11 cell", x.state(0, 0, 1, 10), 4);
        due("11 cargo", x.state(0, 0, 1, 20), 4);
        due("11 thrown", x.state(0, 0, 2, 20), 3);
        due("11 loyal follows", x.state(0, 0, 1, 55), 4);
        due("11 loyal follows", x.state(0, 0, 2, 55), 3);
        due("11 harm", x.state(0, 0, 2, 31), 8);
        due("11 hired", x.state(0, 0, 4, 51), 2);
        due("11 hired follows", x.state(0, 0, 5, 51), 1);
        due("11 mean", x.state(0, 0, 5, 50), 1);
        // behind 5 deeds: ship 0 at cell 4, a rock, 1 + 1 + 3; ship 1 at cell 11, guarded, lit; ship 2 at cell 4, lit by 5
        due("11 beam", x.state(0, 0, 5, 40), 1);
        due("11 beam", x.state(0, 0, 5, 41), 1);
        due("11 beam", x.state(0, 0, 5, 42), 1);
        due("11 none struck", x.state(0, 0, 6, 1), 0);
        due("11 caught", x.state(0, 0, 6, 2), 2);
        due("11 hour", x.state(0, 0, 6, 0), 1);
        due("11 lost", x.state(0, 0, 6, 11), NONE);
        due("11 lost cargo", x.state(0, 0, 6, 21), 2);
        due("11 lost harm", x.state(0, 0, 6, 31), 8);
        due("11 lost beam", x.state(0, 0, 6, 41), 0);
        due("11 lost man", x.state(0, 0, 6, 54), 3);
        due("11 plain in odd hours", x.state(0, 0, 6, 50), 1);
        due("11 late is over", x.state(0, 0, 6, 58), 0);
        due("11 stop", x.stop(0, 0), 6);
        due("11 beyond stop", x.state(0, 0, 7, 0), -2);
        due("11 below 0", x.state(0, 0, -1, 0), -2);
        int[] others = {3, 9, 13, 19, 23, 33, 43, 49, 52, 53, 56, 57, 59, 62, 66, 100, -1, -10};
        for (int what : others) {
            due("11 what " + what, x.state(0, 0, 0, what), -2);
        }
        due("11 no coast", x.state(1, 0, 0, 0), -2);
        due("11 no night", x.state(0, 1, 0, 0), -2);
        for (int n : FAR) {
            due("11 far", x.state(n, 0, 0, 0), -2);
            due("11 far", x.state(0, n, 0, 0), -2);
            due("11 far", x.state(0, 0, n, 0), -2);
            due("11 far", x.state(0, 0, 0, n), -2);
        }
        IllLight y = Check.night("size 2 2;rock 0 0;rock 1 1;guard 0 0 7;ship 0 0 0 0;ship 1 1 1 0;ship 0 1 0 0;", "hour;hour;");
        due("11 dark on a rock, though guarded", y.state(0, 0, 1, 1), 1);
        due("11 lit on a rock, guarded", y.state(0, 0, 1, 2), 2);
        due("11 it stays so", y.state(0, 0, 2, 1), 1);
        due("11 a dark one is not caught", y.state(0, 0, 2, 12), 2);
        IllLight z = Check.night("ship 0 0 0 0;", Check.times(24, "hour;"));
        due("11 hour 23", z.state(0, 0, 23, 0), 23);
        due("11 no hour 24", z.state(0, 0, 24, 0), -2);
    }

    private static int beamOn(String ships, int ship) {
        return Check.night("size 7 7;lamp 3 3;" + ships, "").state(0, 0, 0, 40 + ship);
    }

    private static void beam() {
        String lit = " 1 0;";
        String dark = " 0 0;";
        due("11 shaded by a lit one", beamOn("ship 6 3" + dark + "ship 5 3" + lit, 0), 1);
        due("11 shaded by a dark one", beamOn("ship 6 3" + lit + "ship 5 3" + dark, 0), 0);
        due("11 the one between is by itself", beamOn("ship 6 3" + lit + "ship 5 3" + dark, 1), 0);
        due("11 on the other side", beamOn("ship 6 3" + lit + "ship 2 3" + dark, 0), 1);
        due("11 in the column", beamOn("ship 3 0" + lit + "ship 3 2" + dark, 0), 0);
        due("11 below in the column", beamOn("ship 3 6" + dark + "ship 3 4" + lit, 0), 1);
        due("11 to the left", beamOn("ship 0 3" + dark + "ship 1 3" + lit, 0), 1);
        due("11 column and row", beamOn("ship 3 6" + lit + "ship 4 3" + dark, 0), 1);
        due("11 in another row", beamOn("ship 6 4" + lit + "ship 5 4" + dark, 0), 1);
        due("11 at the lamp's cell", beamOn("ship 6 3" + lit + "ship 3 3" + dark, 0), 1);
        due("11 itself at the lamp's", beamOn("ship 3 3" + lit + "ship 3 3" + dark, 0), 1);
        due("11 at the same cell", beamOn("ship 6 3" + lit + "ship 6 3" + dark, 0), 1);
        due("11 the nearest to the lamp", beamOn("ship 6 3" + lit + "ship 5 3" + lit + "ship 4 3" + dark, 0), 0);
        due("11 the nearest to the lamp", beamOn("ship 6 3" + dark + "ship 4 3" + lit + "ship 5 3" + dark, 0), 1);
        due("11 by itself alone, not by the next", beamOn("ship 6 3" + dark + "ship 5 3" + lit + "ship 4 3" + dark, 1), 0);
        due("11 of several the least", beamOn("ship 6 3" + dark + "ship 4 3" + lit + "ship 4 3" + dark, 0), 1);
        due("11 of several the least", beamOn("ship 6 3" + dark + "ship 4 3" + dark + "ship 4 3" + lit, 0), 0);
        IllLight x = Check.night("size 7 7;lamp 3 3;rock 5 3;rock 6 3;ship 6 3" + lit + "ship 5 3" + dark, "hour;hour;");
        due("11 struck in the shade", x.state(0, 0, 1, 1), 3);
        IllLight y = Check.night("size 7 7;lamp 3 3;rock 5 3;ship 6 3" + lit + "ship 5 3" + dark, "hour;");
        due("11 a lost one shades no more", y.state(0, 0, 1, 40), 1);
        IllLight z = Check.night("size 7 7;lamp 3 3;guard 6 3 0;ship 6 3" + dark + "ship 5 3" + lit, "hour;");
        due("11 caught by another's light", z.state(0, 0, 1, 2), 1);
    }

    private static void promise12() {
        IllLight x = Check.coast(ROCKY);
        int[] dues0 = {1, 3, 4, NONE, 0, 1, 2, 4, 1, 3, 3, 4};
        for (int cell = 0; cell < 12; cell++) {
            due("12 way " + cell, x.way(0, 0, cell), dues0[cell]);
        }
        due("12 dark: own cell", x.way(0, 1, 8), 0);
        due("12 dark: no rock", x.way(0, 1, 9), NONE);
        due("12 no cell", x.way(0, 0, 12), NONE);
        due("12 no cell", x.way(0, 0, -1), NONE);
        due("12 no ship", x.way(0, 2, 0), NONE);
        due("12 no coast", x.way(1, 0, 0), NONE);
        for (int n : FAR) {
            due("12 far", x.way(n, 0, 0), NONE);
            due("12 far", x.way(0, n, 0), NONE);
            due("12 far", x.way(0, 0, n), NONE);
        }
        IllLight y = Check.coast("size 8 8;rock 0 0;ship 0 0 0 0;");
        due("12 it leaves a rock in time", y.way(0, 0, 63), 14);
        due("12 at once", y.way(0, 0, 0), 0);
        // lit until hour 20: the guarded cell can be come to from hour 20 on, at the end of the 21st
        IllLight z = Check.coast("size 2 2;guard 1 0 0;ship 0 0 0 0;late 1 20;");
        due("12 it waits", z.way(0, 0, 1), 21);
        // lit in hour 0 alone: one rock is guarded then, the other too far; it stands open again in hour 24
        IllLight w = Check.coast("size 3 2;lamp 2 0;rock 1 0;rock 1 1;guard 2 0 1;ship 0 0 0 0;late 1 1;");
        due("12 caught or struck at the rock", w.way(0, 0, 1), NONE);
        due("12 by the other rock", w.way(0, 0, 5), 26);
        IllLight v = Check.coast("size 4 2;rock 2 0;rock 2 1;ship 0 0 0 0;late 1 1;");
        due("12 too late for hour 0, so in hour 24", v.way(0, 0, 2), 25);
        due("12 and on", v.way(0, 0, 3), 26);
        // walls that open in hours 24 and 48, then 10 steps to the corner, and a corridor up from it
        IllLight far = Check.coast("size 8 8;rock 2 0;rock 1 1;rock 0 2;rock 4 0;rock 3 1;rock 2 2;rock 1 3;rock 0 4;"
            + "rock 6 6;rock 6 5;rock 7 4;ship 0 0 0 0;late 1 1;");
        due("12 to the corner", far.way(0, 0, 63), 59);
        due("12 hour 60", far.way(0, 0, 55), 60);
        due("12 beyond hour 60", far.way(0, 0, 47), NONE);
        due("13 hour 60", far.free(0, 0, 60, 0) - far.free(0, 0, 59, 0), 1);
        due("14 hour 60", far.helps(0, 0, 55, 60, 3), 0);
        due("14 hour 59", far.helps(0, 0, 55, 59, 2), NONE);
        IllLight u = Check.coast("size 2 2;lamp 1 1;ship 1 0 0 0;ship 0 0 3 0;guard 0 1 0;");
        due("12 as if no other were there", u.way(0, 1, 2), NONE);
        due("12 the other", u.way(0, 0, 2), 2);
    }

    private static void promise13() {
        IllLight x = Check.coast(ROCKY);
        for (int n = 0; n < 5; n++) {
            int want = 0;
            for (int cell = 0; cell < 12; cell++) {
                int way = x.way(0, 0, cell);
                want += way != NONE && way <= n ? 1 : 0;
            }
            due("13 free " + n, x.free(0, 0, n, 0), want);
        }
        due("13 own cell", x.free(0, 0, 0, 0), 1);
        due("13 one hour", x.free(0, 0, 1, 0), 4);
        due("13 dark", x.free(0, 1, 60, 0), 3);
        due("13 kindly", x.free(0, 1, 60, 1), 9);
        due("13 kindly", x.free(0, 1, 2, 1), 6);
        due("13 honest", x.free(0, 0, 60, 2), 3);
        due("13 honest", x.free(0, 0, 0, 2), 1);
        due("13 what", x.free(0, 0, 0, 3), NONE);
        due("13 what", x.free(0, 0, 0, -1), NONE);
        due("13 n", x.free(0, 0, 61, 0), NONE);
        due("13 n", x.free(0, 0, -1, 0), NONE);
        due("13 ship", x.free(0, 2, 0, 0), NONE);
        due("13 coast", x.free(1, 0, 0, 0), NONE);
        for (int n : FAR) {
            due("13 far", x.free(n, 0, 0, 0), NONE);
            due("13 far", x.free(0, n, 0, 0), NONE);
            due("13 far", x.free(0, 0, n, 0), NONE);
            due("13 far", x.free(0, 0, 0, n), NONE);
        }
        IllLight y = Check.coast("size 8 8;ship 3 3 0 0;");
        due("13 one hour in the open", y.free(0, 0, 1, 0), 5);
        due("13 two hours in the open", y.free(0, 0, 2, 0), 13);
        due("13 all", y.free(0, 0, 8, 0), 64);
        IllLight z = Check.coast("size 8 8;rock 3 3;rock 2 3;rock 4 3;rock 3 2;rock 3 4;ship 3 3 0 0;");
        due("13 no way from a rock", z.free(0, 0, 60, 0), 1);
    }

    private static void promise14() {
        IllLight x = Check.coast(ROCKY);
        due("14 taken", x.helps(0, 0, 6, 2, 0), 1);
        due("14 taken: none needed", x.helps(0, 0, 8, 2, 0), 0);
        due("14 taken: by none", x.helps(0, 1, 10, 60, 0), NONE);
        due("14 ill", x.helps(0, 1, 10, 2, 1), 1);
        due("14 ill: too soon", x.helps(0, 1, 10, 1, 1), NONE);
        due("14 thrown", x.helps(0, 0, 6, 2, 2), 0);
        due("14 leave", x.helps(0, 0, 6, 2, 3), 0);
        due("14 lulled", x.helps(0, 0, 6, 2, 4), 0);
        due("14 lulled: by none", x.helps(0, 1, 10, 60, 4), NONE);
        // a guard beside: with harm 2 or more it is caught; the cargo, or the men, must go
        IllLight y = Check.coast("size 3 2;lamp 2 1;limit 2;guard 1 0 0;ship 0 0 3 0;plain 1;plain 1;hired;");
        due("14 thrown: not enough alone", y.helps(0, 0, 1, 1, 2), NONE);
        due("14 ill: not enough alone", y.helps(0, 0, 1, 1, 1), NONE);
        IllLight z = Check.coast("size 3 2;lamp 2 1;limit 3;guard 1 0 0;ship 0 0 4 0;plain 1;plain 1;hired;");
        due("14 thrown", z.helps(0, 0, 1, 1, 2), NONE);
        IllLight t = Check.coast("size 3 2;lamp 2 1;limit 3;guard 1 0 0;ship 0 0 4 0;plain 1;");
        due("14 thrown 3", t.helps(0, 0, 1, 1, 2), 3);
        IllLight own = Check.coast("size 3 2;lamp 2 1;limit 3;guard 1 0 0;ship 0 0 4 0;loyal 0;");
        due("14 loyal to the own cargo", own.helps(0, 0, 1, 1, 2), 3);
        due("14 loyal to it: two men", Check.coast("size 3 2;lamp 2 1;limit 8;guard 1 0 0;ship 0 0 4 0;loyal 0;").helps(0, 0, 1, 1, 2), 1);
        // limit 3: any two of 1, 1, 2 are dark but for 1 + 2; the rock beside needs light
        IllLight rock = Check.coast("size 3 2;limit 3;rock 1 0;ship 0 0 0 0;plain 1;plain 1;plain 2;");
        due("14 taken: of several the least", rock.helps(0, 0, 1, 1, 0), 5);
        due("14 ill", rock.helps(0, 0, 1, 1, 1), 0);
        IllLight hired = Check.coast("size 3 2;limit 4;rock 1 0;ship 0 0 0 0;plain 2;hired;asleep;");
        due("14 taken: hired with the captain", hired.helps(0, 0, 1, 1, 0), 3);
        due("14 ill: hired as well", hired.helps(0, 0, 1, 1, 1), 2);
        IllLight guard = Check.coast("size 3 2;limit 3;guard 1 0 0;ship 0 0 0 0;plain 3;plain 1;plain 3;");
        due("14 lulled: two", guard.helps(0, 0, 1, 1, 4), 5);
        IllLight dull = Check.coast("size 3 2;limit 3;guard 1 0 0;ship 0 0 0 0;plain 2;plain 1;plain 1;");
        due("14 lulled: the captain alone", dull.helps(0, 0, 1, 1, 4), 1);
        due("14 taken: none", dull.helps(0, 0, 1, 1, 0), 0);
        IllLight awake = Check.coast("size 4 2;limit 2;rock 1 0;rock 2 0;rock 1 1;rock 2 1;ship 0 0 0 0;plain 2;plain 0;");
        due("14 flickering it is struck", awake.way(0, 0, 3), NONE);
        due("14 lulled: it is steady then", awake.helps(0, 0, 3, 3, 4), 2);
        due("14 taken: without him", awake.helps(0, 0, 3, 3, 0), 1);
        IllLight late = Check.coast("size 2 2;guard 1 0 0;ship 0 0 0 0;late 1 20;");
        due("14 leave: at hour 20", late.helps(0, 0, 1, 1, 3), 20);
        due("14 leave: at once, if there is time", late.helps(0, 0, 1, 21, 3), 0);
        due("14 leave: by none", late.helps(0, 0, 1, 0, 3), NONE);
        IllLight empty = Check.coast("size 2 2;ship 0 0 0 0;");
        due("14 no captain", empty.helps(0, 0, 1, 9, 1), NONE);
        due("14 taken of none", empty.helps(0, 0, 1, 9, 0), 0);
        due("14 lulled of none", empty.helps(0, 0, 1, 9, 4), 0);
        due("14 own cell in 0", x.helps(0, 0, 4, 0, 0), 0);
        due("14 what", x.helps(0, 0, 4, 0, 5), NONE);
        due("14 what", x.helps(0, 0, 4, 0, -1), NONE);
        for (int what = 0; what < 5; what++) {
            due("14 n", x.helps(0, 0, 4, 61, what), NONE);
            due("14 n", x.helps(0, 0, 4, -1, what), NONE);
            due("14 cell", x.helps(0, 0, 12, 9, what), NONE);
            due("14 ship", x.helps(0, 2, 0, 9, what), NONE);
            due("14 coast", x.helps(1, 0, 0, 9, what), NONE);
            for (int n : FAR) {
                due("14 far", x.helps(n, 0, 0, 9, what), NONE);
                due("14 far", x.helps(0, n, 0, 9, what), NONE);
                due("14 far", x.helps(0, 0, n, 9, what), NONE);
                due("14 far", x.helps(0, 0, 0, n, what), NONE);
                due("14 far", x.helps(0, 0, 0, 9, n), NONE);
            }
        }
    }

    private static void promise15() {
        IllLight x = Check.coast(ROCKY);
        due("15 none", x.rest(0, 0, NONE), 0);
        due("15 all", x.rest(0, 2, NONE), 9);
        for (int k = 0; k < 9; k++) {
            due("15 the k-th", x.rest(0, 2, k), k / 3 * 8 + k % 3);
        }
        due("15 no such", x.rest(0, 2, 9), NONE);
        // R 1 of three rows: a guard in the middle sees all; the pirate wins nothing, and none else would do better
        due("15 R 1", x.rest(0, 1, NONE), 3);
        due("15 R 1", x.rest(0, 1, 0), 1);
        due("15 R 1", x.rest(0, 1, 1), 9);
        due("15 R 1", x.rest(0, 1, 2), 17);
        due("15 safest", x.rest(0, 0, -2), 0);
        // rows of 0, 3, 3 cells, R 0: with the guard in the pirate's row the pirate goes to the other; in row 0 all is one to the guard
        IllLight y = Check.coast("size 3 3;rock 0 0;rock 1 0;rock 2 0;");
        due("15 a row of rocks", y.rest(0, 0, NONE), 0);
        IllLight z = Check.coast("size 2 2;rock 0 0;rock 1 0;");
        // rows of 0 and 2: guard in 1: the pirate wins nothing anywhere
        due("15 two rows", z.rest(0, 0, NONE), 2);
        due("15 two rows", z.rest(0, 0, 0), 1);
        due("15 two rows", z.rest(0, 0, 1), 9);
        IllLight w = Check.coast("size 2 2;rock 0 0;rock 1 0;rock 0 1;rock 1 1;");
        due("15 nothing to win", w.rest(0, 0, NONE), 4);
        due("15 R 7", x.rest(0, 7, NONE), 9);
        due("15 R 8", x.rest(0, 8, NONE), NONE);
        due("15 R -1", x.rest(0, -1, NONE), NONE);
        due("15 R 8", x.rest(0, 8, -2), NONE);
        due("15 k -3", x.rest(0, 0, -3), NONE);
        due("15 k 0 of none", x.rest(0, 0, 0), NONE);
        due("15 coast", x.rest(1, 0, NONE), NONE);
        due("15 coast", x.rest(1, 0, -2), NONE);
        for (int n : FAR) {
            due("15 far", x.rest(n, 0, NONE), NONE);
            due("15 far", x.rest(0, n, NONE), NONE);
            due("15 far", x.rest(0, 0, n), NONE);
        }
    }

    private static void premium(int n, int p, int worth, long over, long under) {
        IllLight x = new IllLight();
        due("16 premium " + n + " " + p + " " + worth, x.premium(n, p, worth, false), over);
        due("16 premium under " + n + " " + p + " " + worth, x.premium(n, p, worth, true), under);
    }

    private static void promise16() {
        premium(1, 5, 10, 5, 1);
        premium(2, 2, 50, 18, 1);
        premium(1, 0, 99, 0, 1);
        premium(9, 10, 99, 99, 1);
        premium(3, 1, 0, 0, 1);
        premium(1, 3, 1, 3, 10);
        premium(3, 1, 1, 271, 1000);
        premium(9, 1, 99, 99L * (1000000000 - 387420489), 1000000000);
        int[][] others = {{0, 1, 1}, {10, 1, 1}, {1, -1, 1}, {1, 11, 1}, {1, 1, -1}, {1, 1, 100}};
        for (int[] o : others) {
            premium(o[0], o[1], o[2], NONE, NONE);
        }
        for (int n : FAR) {
            premium(n, 1, 1, NONE, NONE);
            premium(1, n, 1, NONE, NONE);
            premium(1, 1, n, NONE, NONE);
        }
    }

    private static void promise17() {
        IllLight x = Check.log("man 3;man 10;limit 4;limit 2;errors 5;errors 1;lit 22;dark 5;dark 0;man 0;");
        int[] whats = {0, 1, 2, 3, 10, 11, 12, 20, 21, 22, 30, 31, 32};
        int[] dues = {3, 2, 1, 3, 3, 10, 0, 1, 0, 0, 22, 5, 0};
        for (int k = 0; k < whats.length; k++) {
            due("17 log " + whats[k], x.log(0, whats[k]), dues[k]);
        }
        int[] others = {-1, 4, 9, 13, 16, 19, 23, 29, 33, 39, 40, 100};
        for (int what : others) {
            due("17 log " + what, x.log(0, what), NONE);
        }
        IllLight y = Check.log(Check.times(6, "man 7;") + Check.times(10, "lit 9;"));
        due("17 the last man", y.log(0, 15), 7);
        due("17 no man", y.log(0, 16), NONE);
        due("17 the last fact", y.log(0, 29), 1);
        due("17 its hour", y.log(0, 39), 9);
        due("17 no log", x.log(1, 0), NONE);
        for (int n : FAR) {
            due("17 far", x.log(n, 0), NONE);
            due("17 far", x.log(0, n), NONE);
        }
    }

    private static void promise18() {
        IllLight x = Check.log("limit 2;man 5;man 5;man 2;errors 2;lit 4;dark 7;");
        int[] whats = {0, 1, 2, 10, 11, 12, 13, 3, 9, -1};
        int[] dues = {3, 0, 0, 3, 5, 6, -2, -2, -2, -2};
        for (int k = 0; k < whats.length; k++) {
            due("18 fits " + whats[k], x.fits(0, whats[k]), dues[k]);
        }
        IllLight none = Check.log("man 5;lit 1;dark 3;");
        due("18 nothing", none.fits(0, 0), 0);
        due("18 sure of nothing", none.fits(0, 1), NONE);
        due("18 ask of nothing", none.fits(0, 2), NONE);
        due("18 no set", none.fits(0, 10), -2);
        IllLight steady = Check.log("man 0;man 0;man 0;lit 1;");
        due("18 steady", steady.fits(0, 0), 1);
        due("18 sure", steady.fits(0, 1), 7);
        due("18 the set", steady.fits(0, 10), 7);
        // four sets of two men, limit 1: dark 1, flickering 2, steady 1; even hours: 3 against 1, odd ones: 1 against 3
        IllLight two = Check.log("man 1;man 1;");
        due("18 all", two.fits(0, 0), 4);
        due("18 ask", two.fits(0, 2), 0);
        // seen dark in an odd hour: 3 left; even: 2 against 1, odd: 0 against 3
        IllLight odd = Check.log("man 1;man 1;dark 1;");
        due("18 ask", odd.fits(0, 2), 0);
        // seen lit in an even hour: 3 left; even: 3 against 0; odd: 1 against 2
        IllLight even = Check.log("man 1;man 1;lit 6;");
        due("18 ask in an odd hour", even.fits(0, 2), 1);
        IllLight empty = Check.log("");
        due("18 no men", empty.fits(0, 0), 1);
        due("18 no men", empty.fits(0, 1), 0);
        due("18 no men", empty.fits(0, 10), 0);
        due("18 no men", empty.fits(0, 11), -2);
        IllLight six = Check.log(Check.times(6, "man 5;"));
        due("18 64 sets", six.fits(0, 0), 64);
        due("18 the last", six.fits(0, 73), 63);
        due("18 beyond", six.fits(0, 74), -2);
        IllLight high = Check.log("limit 6;man 1;");
        due("18 never lit", high.fits(0, 2), 0);
        due("18 no log", x.fits(1, 0), -2);
        for (int n : FAR) {
            due("18 far", x.fits(n, 0), -2);
            due("18 far", x.fits(0, n), -2);
        }
    }

    private static void belief(String log, int man, long over, long under) {
        IllLight x = Check.log(log);
        due("19 belief in " + man + " of " + log, x.belief(0, man, false), over);
        due("19 belief under in " + man + " of " + log, x.belief(0, man, true), under);
    }

    private static void promise19() {
        belief("limit 2;man 5;man 5;man 2;errors 2;lit 4;dark 7;", 0, 25, 38);
        belief("man 3;", 0, 3, 10);
        belief("man 0;", 0, 0, 1);
        belief("man 10;", 0, 1, 1);
        belief("man 3;lit 1;", 0, 1, 1);
        belief("man 3;dark 1;", 0, 0, 1);
        belief("man 0;lit 1;", 0, 0, 1);
        // 5 * 9 against 5 * 1
        belief("man 5;errors 1;lit 1;", 0, 9, 10);
        // 5 * 9 * 1 against 5 * 1 * 9
        belief("man 5;errors 1;lit 1;dark 1;", 0, 1, 2);
        // two men of 5 and 2, limit 1, lit in an even hour: 3 of the 4 sets fit: (5*2 + 5*8) by (5*2 + 5*8 + 5*2)
        belief("man 5;man 2;lit 0;", 0, 5, 6);
        belief("man 5;man 2;lit 0;", 1, 1, 3);
        String full = Check.times(6, "man 7;") + "limit 6;errors 9;" + Check.times(10, "dark 1;");
        // all six: 7^6 * 9^10 against (10^6 - 7^6) * 1
        long all = 117649L * 3486784401L;
        belief(full, 3, BigSum.over(all + 7 * (100000 - 16807), all + 882351), BigSum.under(all + 7 * (100000 - 16807), all + 882351));
        IllLight x = Check.log("man 3;");
        for (int man : new int[] {-1, 1, 6, Integer.MIN_VALUE, Integer.MAX_VALUE}) {
            due("19 no man", x.belief(0, man, false), NONE);
            due("19 no man", x.belief(0, man, true), NONE);
            due("19 no log", x.belief(man, 0, false), NONE);
        }
    }

    private static void promise20() {
        IllLight x = Check.coast("size 3 3;ship 1 1 2 0;plain 1;ship 0 0 0 0;");
        // each seed's first numbers by hand: x * 1103515245 + 12345, shifted by 16
        for (int seed = -3; seed < 60; seed++) {
            int a = seed * 1103515245 + 12345;
            int b = a * 1103515245 + 12345;
            int ship = (a >>> 16) % 2;
            int number = (b >>> 16) % 8;
            int cell = ship == 0 ? 4 : 0;
            int column = cell % 3 + (number == 1 ? 1 : number == 3 ? -1 : 0);
            int row = cell / 3 + (number == 2 ? 1 : number == 0 ? -1 : 0);
            if (row >= 0 && column >= 0) {
                cell = 3 * row + column;
            }
            due("20 drawn cell " + seed, x.drawn(0, seed, 1, 10 + ship), cell);
            due("20 drawn hour " + seed, x.drawn(0, seed, 1, 0), number >= 6 ? 1 : 0);
            due("20 drawn cargo " + seed, x.drawn(0, seed, 1, 20), number == 5 && ship == 0 ? 1 : 2);
            if (number == 4) {
                int c = b * 1103515245 + 12345;
                int d = c * 1103515245 + 12345;
                boolean may = ship == 0 && (c >>> 16) % 4 == 0;
                due("20 drawn man " + seed, x.drawn(0, seed, 1, 50), may ? (d >>> 16) % 10 : 1);
            }
        }
        due("20 n 0", x.drawn(0, 5, 0, 10), 4);
        due("20 no such what", x.drawn(0, 5, 0, 12), -2);
        due("20 no such what", x.drawn(0, 5, 0, 3), -2);
        due("20 no such man", x.drawn(0, 5, 0, 54), -2);
        due("20 n 61", x.drawn(0, 5, 61, 0), -2);
        due("20 n -1", x.drawn(0, 5, -1, 0), -2);
        due("20 no coast", x.drawn(1, 5, 0, 0), -2);
        due("20 no ships", Check.coast("").drawn(0, 5, 0, 0), -2);
        for (int n : FAR) {
            due("20 far", x.drawn(n, 5, 0, 0), -2);
            due("20 far", x.drawn(0, 5, n, 0), -2);
            due("20 far", x.drawn(0, 5, 0, n), -2);
        }
    }

    private static void promise21() {
        IllLight x = Check.coast(ROCKY);
        due("21 lit", x.hours(0, 0, 0), 0x555555);
        due("21 flickers", x.hours(0, 0, 1), 0x555556);
        due("21 longest", x.hours(0, 0, 2), 1);
        due("21 most harm", x.hours(0, 0, 3), 0);
        due("21 steady", x.hours(0, 0, 4), 1);
        due("21 never lit", x.hours(0, 1, 0), 0);
        due("21 longest", x.hours(0, 1, 2), 24);
        due("21 steady", x.hours(0, 1, 4), 0);
        IllLight y = Check.coast("limit 5;ship 0 0 0 0;late 5 9;late 4 3;ship 0 0 9 0;ship 0 0 1 2;late 7 1;divided 9;");
        due("21 lit up to 3, flickering up to 9", y.hours(0, 0, 0), 0x157);
        due("21 flickers", y.hours(0, 0, 1), 0x1F8);
        due("21 longest", y.hours(0, 0, 2), 15);
        due("21 steady", y.hours(0, 0, 4), 3);
        due("21 always", y.hours(0, 1, 0), 0xFFFFFF);
        due("21 longest", y.hours(0, 1, 2), 0);
        due("21 steady", y.hours(0, 1, 4), 24);
        due("21 most harm", y.hours(0, 2, 3), 0);
        IllLight z = Check.coast("ship 0 0 0 4;plain 3;divided 5;");
        due("21 none, so the least", z.hours(0, 0, 3), 0);
        due("21 what", x.hours(0, 0, 5), NONE);
        due("21 what", x.hours(0, 0, -1), NONE);
        due("21 ship", x.hours(0, 2, 0), NONE);
        due("21 coast", x.hours(1, 0, 0), NONE);
        for (int n : FAR) {
            due("21 far", x.hours(n, 0, 0), NONE);
            due("21 far", x.hours(0, n, 0), NONE);
            due("21 far", x.hours(0, 0, n), NONE);
        }
    }

    private static int shadeOf(int column, int row) {
        return Check.coast("size 7 5;lamp 2 3;ship " + column + " " + row + " 0 0;").shade(0, 0);
    }

    private static void promise22() {
        due("22 right", shadeOf(3, 3), 3);
        due("22 at the right edge", shadeOf(6, 3), 0);
        due("22 left", shadeOf(1, 3), 1);
        due("22 at the left edge", shadeOf(0, 3), 0);
        due("22 up", shadeOf(2, 2), 2);
        due("22 up", shadeOf(2, 1), 1);
        due("22 down", shadeOf(2, 4), 0);
        due("22 at the lamp", shadeOf(2, 3), 0);
        due("22 in neither", shadeOf(3, 2), 0);
        IllLight x = Check.coast("ship 0 2 0 0;");
        due("22 down", x.shade(0, 0), 3);
        due("22 ship", x.shade(0, 1), NONE);
        due("22 coast", x.shade(1, 0), NONE);
        for (int n : FAR) {
            due("22 far", x.shade(n, 0), NONE);
            due("22 far", x.shade(0, n), NONE);
        }
    }

    private static void promise23() {
        IllLight x = Check.coast(ROCKY);
        due("23 even hours", x.leaves(0, 0, 6, 2), 0x555555);
        due("23 all, with three", x.leaves(0, 0, 6, 3), 0xFFFFFF);
        due("23 none", x.leaves(0, 0, 6, 1), 0);
        due("23 own cell", x.leaves(0, 0, 4, 0), 0xFFFFFF);
        due("23 none ever", x.leaves(0, 1, 10, 60), 0);
        IllLight y = Check.coast("size 2 2;guard 1 0 0;ship 0 0 0 0;late 1 20;");
        due("23 from 20 on", y.leaves(0, 0, 1, 1), 0xF00000);
        due("23 from 19 on", y.leaves(0, 0, 1, 2), 0xF80000);
        IllLight z = Check.coast("size 2 2;rock 1 0;ship 0 0 0 0;late 1 1;");
        due("23 behind hour 23 comes 0", z.leaves(0, 0, 1, 2), 0x800001);
        due("23 n", x.leaves(0, 0, 4, 61), NONE);
        due("23 n", x.leaves(0, 0, 4, -1), NONE);
        due("23 cell", x.leaves(0, 0, 12, 1), NONE);
        due("23 ship", x.leaves(0, 2, 0, 1), NONE);
        due("23 coast", x.leaves(1, 0, 0, 1), NONE);
        for (int n : FAR) {
            due("23 far", x.leaves(n, 0, 0, 1), NONE);
            due("23 far", x.leaves(0, n, 0, 1), NONE);
            due("23 far", x.leaves(0, 0, n, 1), NONE);
            due("23 far", x.leaves(0, 0, 0, n), NONE);
        }
    }

    private static void promise24() {
        IllLight x = Check.coast(ROCKY);
        due("24 back", x.back(0, 0, 6), 4);
        due("24 own cell", x.back(0, 0, 4), 0);
        due("24 beside", x.back(0, 0, 8), 2);
        due("24 a rock", x.back(0, 0, 5), 2);
        due("24 never", x.back(0, 0, 3), NONE);
        due("24 never", x.back(0, 1, 9), NONE);
        // a rock that lets it out at once, but not in again in the dark
        IllLight y = Check.coast("size 2 2;rock 0 0;ship 0 0 0 0;");
        due("24 no way back", y.back(0, 0, 1), NONE);
        due("24 but there", y.way(0, 0, 1), 1);
        // it may be at the rock in hour 0, but back from beyond only by the rock in hour 24
        IllLight z = Check.coast("size 3 2;rock 1 0;rock 1 1;ship 0 0 0 0;late 1 1;");
        due("24 back in hour 24", z.back(0, 0, 2), 26);
        // the corner opens in hours 24 and 48, 11 steps from the ship; 12 from the other
        IllLight far = Check.coast("size 8 8;rock 6 7;rock 7 6;ship 2 0 0 0;late 1 1;ship 1 0 0 0;late 1 1;");
        due("24 hour 60", far.back(0, 0, 63), 60);
        due("24 beyond hour 60", far.back(0, 1, 63), NONE);
        due("24 cell", x.back(0, 0, 12), NONE);
        due("24 cell", x.back(0, 0, -1), NONE);
        due("24 ship", x.back(0, 2, 0), NONE);
        due("24 coast", x.back(1, 0, 0), NONE);
        for (int n : FAR) {
            due("24 far", x.back(n, 0, 0), NONE);
            due("24 far", x.back(0, n, 0), NONE);
            due("24 far", x.back(0, 0, n), NONE);
        }
    }

    private static void watch(IllLight x, int range, int many, int a, int b) {
        due("25 watch " + range, x.watch(0, range, 0), many);
        due("25 first " + range, x.watch(0, range, 1), a);
        due("25 second " + range, x.watch(0, range, 2), b);
    }

    private static void promise25() {
        IllLight x = Check.coast(ROCKY);
        watch(x, 0, 2, 0, 1);
        // 4 by 3, range 1: 0 sees 3 and 6 sees 5, no one of them both
        watch(x, 1, 8, 0, 6);
        watch(x, 7, 12, 0, 1);
        due("25 crossed", x.watch(0, 0, 3), 1);
        due("25 crossed by range 1", x.watch(0, 1, 3), 5);
        due("25 crossed by range 2", x.watch(0, 2, 3), 1);
        IllLight y = Check.coast("size 8 8;guard 0 0 7;");
        due("25 beside no others", y.watch(0, 0, 0), 2);
        due("25 no rocks", y.watch(0, 7, 3), 0);
        due("25 range 1 in the open", y.watch(0, 1, 0), 10);
        due("25 first", y.watch(0, 1, 1), 9);
        due("25 second", y.watch(0, 1, 2), 12);
        due("25 what", x.watch(0, 0, 4), NONE);
        due("25 what", x.watch(0, 0, -1), NONE);
        due("25 range", x.watch(0, 8, 0), NONE);
        due("25 range", x.watch(0, -1, 3), NONE);
        due("25 coast", x.watch(1, 0, 0), NONE);
        for (int n : FAR) {
            due("25 far", x.watch(n, 0, 0), NONE);
            due("25 far", x.watch(0, n, 0), NONE);
            due("25 far", x.watch(0, 0, n), NONE);
        }
    }

    private static void promise26() {
        IllLight x = Check.coast("ship 0 0 7 0;divided 3;plain 4;hired;loyal 0;ship 0 0 0 0;plain 2;plain 2;ship 0 0 0 0;");
        due("26 mutiny", x.mutiny(0, 0, 0, false), 10);
        due("26 worst", x.mutiny(0, 0, 0, true), 3);
        due("26 in an odd hour", x.mutiny(0, 0, 1, false), 10);
        due("26 none", x.mutiny(0, 1, 0, false), 0);
        due("26 of several the least", x.mutiny(0, 1, 0, true), 0);
        due("26 no men", x.mutiny(0, 2, 0, false), NONE);
        due("26 no men", x.mutiny(0, 2, 0, true), NONE);
        due("26 hour", x.mutiny(0, 0, 24, false), NONE);
        due("26 hour", x.mutiny(0, 0, -1, true), NONE);
        due("26 ship", x.mutiny(0, 3, 0, true), NONE);
        due("26 coast", x.mutiny(1, 0, 0, true), NONE);
        IllLight y = Check.coast("ship 0 0 0 0;late 5 3;plain 4;plain 6;plain 6;");
        due("26 early", y.mutiny(0, 0, 2, false), 12);
        due("26 late", y.mutiny(0, 0, 3, false), 14);
        due("26 worst", y.mutiny(0, 0, 23, true), 2);
        for (int n : FAR) {
            due("26 far", x.mutiny(n, 0, 0, false), NONE);
            due("26 far", x.mutiny(0, n, 0, false), NONE);
            due("26 far", x.mutiny(0, 0, n, false), NONE);
        }
    }

    private static void promise27() {
        IllLight x = Check.log("limit 2;man 5;man 5;man 2;errors 2;lit 4;dark 7;");
        due("27 next", x.next(0, 0, false), 25);
        due("27 next", x.next(0, 0, true), 38);
        IllLight y = Check.log("man 5;man 2;");
        due("27 even: one at least", y.next(0, 8, false), 3);
        due("27 even", y.next(0, 8, true), 5);
        due("27 odd: both", y.next(0, 9, false), 1);
        due("27 odd", y.next(0, 9, true), 10);
        IllLight z = Check.log("man 5;errors 1;lit 1;");
        due("27 without errors", z.next(0, 23, false), 9);
        due("27 without errors", z.next(0, 23, true), 10);
        IllLight none = Check.log("man 0;lit 1;");
        due("27 can't be", none.next(0, 0, false), 0);
        due("27 can't be", none.next(0, 0, true), 1);
        IllLight empty = Check.log("");
        due("27 no men", empty.next(0, 0, false), 0);
        due("27 no men", empty.next(0, 0, true), 1);
        due("27 hour", x.next(0, 24, false), NONE);
        due("27 hour", x.next(0, -1, false), NONE);
        due("27 log", x.next(1, 0, true), NONE);
        for (int n : FAR) {
            due("27 far", x.next(n, 0, false), NONE);
            due("27 far", x.next(0, n, true), NONE);
        }
    }

    private static void promise28() {
        IllLight x = Check.log("man 5;man 2;man 3;lit 0;");
        // lit in an even hour: all sets but the empty one: 1000 - 5 * 8 * 7 = 720; both 0 and 1: 5 * 2 * 10
        due("28 both", x.both(0, 0, 1, false), 5);
        due("28 both", x.both(0, 0, 1, true), 36);
        due("28 turned", x.both(0, 1, 0, false), 5);
        due("28 others", x.both(0, 1, 2, false), 1);
        due("28 others", x.both(0, 1, 2, true), 12);
        due("28 one", x.both(0, 1, 1, false), NONE);
        due("28 no man", x.both(0, 0, 3, false), NONE);
        due("28 no man", x.both(0, -1, 0, true), NONE);
        due("28 no log", x.both(1, 0, 1, false), NONE);
        IllLight none = Check.log("man 0;man 0;lit 1;");
        due("28 can't be", none.both(0, 0, 1, false), 0);
        due("28 can't be", none.both(0, 0, 1, true), 1);
        for (int n : FAR) {
            due("28 far", x.both(n, 0, 1, false), NONE);
            due("28 far", x.both(0, n, 1, false), NONE);
            due("28 far", x.both(0, 0, n, false), NONE);
        }
    }

    private static void promise29() {
        IllLight x = new IllLight();
        x.text(0, NONE);
        x.text(1, NONE);
        x.text(1, NONE);
        due("29 coasts", x.count(0), 1);
        due("29 nights", x.count(1), 2);
        due("29 logs", x.count(2), 0);
        due("29 other", x.count(3), -2);
        due("29 other", x.count(-1), -2);
        for (int n : FAR) {
            due("29 far", x.count(n), -2);
        }
    }

    private static void promise30() {
        IllLight x = Check.coast("limit 4;");
        due("30 image", x.image(0), true);
        due("30 image", x.image(2), true);
        due("30 image", x.image(3), false);
        due("30 image", x.image(-1), false);
        for (int n : FAR) {
            due("30 far", x.image(n), false);
        }
        Check.tell(x, 0, 0, "limit 5;");
        due("30 taken anew", x.image(0), true);
        Check.tell(x, 0, 0, "limit 6;");
        due("30 again", x.again(0), true);
        due("30 limit", x.coast(0, 3), 5);
        due("30 again", x.again(2), true);
        due("30 limit", x.coast(0, 3), 4);
    }

    private static void promise31() {
        IllLight x = Check.coast("size 3 4;lamp 1 1;limit 4;rock 2 2;guard 1 2 3;ship 2 3 5 1;late 4 7;");
        Check.tell(x, 1, NONE, "mean 1 2 3;");
        Check.tell(x, 2, NONE, "man 4;errors 2;limit 3;lit 5;");
        Check.tell(x, 0, NONE, "limit 77;");
        Check.feed(x, 0, "limit 9;");
        x.image(1);
        x.end(0);
        Check.tell(x, 0, 0, "size 8 8;limit 2;ship 0 0 0 0;hired;plain 3;");
        Check.tell(x, 1, 0, "hour;go 1 1;");
        Check.tell(x, 2, 0, "man 9;man 8;dark 3;dark 4;");
        Check.tell(x, 2, NONE, "");
        due("31 none such", x.again(0), false);
        due("31 none such", x.again(3), false);
        due("31 none such", x.again(-1), false);
        due("31 nothing changed", x.coast(0, 0), 8);
        due("31 again", x.again(1), true);
        due("31 fault", x.fault(0), 2);
        due("31 place", x.fault(1), 6);
        int[] whats = {0, 1, 2, 3, 4, 5, 10, 20, 30, 40, 50, 60, 108};
        int[] dues = {3, 4, 4, 4, 1, 1, 7, 3, 11, 5, 1, 1, 1};
        for (int k = 0; k < whats.length; k++) {
            due("31 coast " + whats[k], x.coast(0, whats[k]), dues[k]);
        }
        due("31 man", x.man(0, 0, 0, 0), 2);
        due("31 man", x.man(0, 0, 0, 1), 4);
        due("31 man", x.man(0, 0, 0, 2), 7);
        due("31 deeds", x.deed(0, NONE, 0), 1);
        due("31 deed", x.deed(0, 0, 3), 3);
        due("31 log", x.log(0, 0), 1);
        due("31 log", x.log(0, 1), 3);
        due("31 log", x.log(0, 2), 2);
        due("31 log", x.log(0, 3), 1);
        due("31 log", x.log(0, 10), 4);
        due("31 log", x.log(0, 20), 1);
        due("31 log", x.log(0, 30), 5);
        due("31 count", x.count(2), 1);
        due("31 tape", x.end(9), NONE);
        due("31 tape", x.end(8), 8);
        due("31 tape", x.text(0, NONE), 1);
        due("31 tape's limit", x.coast(1, 3), 9);
        due("31 the image stays", x.again(1), true);
        due("31 count", x.count(0), 1);
        due("31 empty text", x.text(0, 0), 0);
        due("31 again", x.again(1), true);
        due("31 size", x.coast(0, 0), 3);
        for (int n : FAR) {
            due("31 far", x.again(n), false);
        }
    }

    private static void constant() {
        due("NONE", IllLight.NONE, -1);
    }
}
