/** Counts wrong answers, and tells texts to an object byte by byte. */
final class Check {
    private int asked;
    private int wrong;

    void due(String call, long got, long want) {
        asked++;
        if (got != want) {
            wrong++;
            if (wrong <= 50) {
                System.out.println(call + " answered " + got + ", due is " + want);
            }
        }
    }

    void due(String call, boolean got, boolean want) {
        due(call, got ? 1 : 0, want ? 1 : 0);
    }

    void close() {
        System.out.println(wrong == 0 ? asked + " answers are as due" : wrong + " of " + asked + " answers are not as due");
        if (wrong != 0) {
            System.exit(1);
        }
    }

    /** Puts signs behind the tape; the last row of twenty is cut with end(). */
    static void feed(IllLight x, int before, String text) {
        for (int at = 0; at < text.length(); at += 20) {
            int[] n = new int[5];
            for (int k = 0; k < 20; k++) {
                int sign = at + k < text.length() ? text.charAt(at + k) : 0;
                n[k / 4] |= sign << (24 - 8 * (k % 4));
            }
            x.feed(n[0], n[1], n[2], n[3], n[4]);
        }
        x.end(before + text.length());
    }

    static int tell(IllLight x, int sort, int at, String text) {
        feed(x, 0, text);
        return x.text(sort, at);
    }

    static IllLight coast(String text) {
        IllLight x = new IllLight();
        tell(x, 0, IllLight.NONE, text);
        return x;
    }

    static IllLight night(String coast, String deeds) {
        IllLight x = coast(coast);
        tell(x, 1, IllLight.NONE, deeds);
        return x;
    }

    static IllLight log(String text) {
        IllLight x = new IllLight();
        tell(x, 2, IllLight.NONE, text);
        return x;
    }

    static String times(int n, String line) {
        StringBuilder all = new StringBuilder();
        for (int k = 0; k < n; k++) {
            all.append(line);
        }
        return all.toString();
    }
}
