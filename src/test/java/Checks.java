/** Counts the answers of one test that are not as due; a test ends by end(). */
final class Checks {
    static final int UNKNOWN = -1;
    static final int BAD_VALUE = -2;
    static final int FULL = -3;
    static final int NOT_POSSIBLE = -4;
    static final int NONE = -5;

    private final String test;
    private int asked;
    private int wrong;

    Checks(String test) {
        this.test = test;
    }

    void due(String what, long got, long want) {
        asked++;
        if (got != want) {
            wrong++;
            System.out.println(test + ": " + what + " answered " + got + ", due is " + want);
        }
    }

    void isTrue(String what, boolean holds) {
        asked++;
        if (!holds) {
            wrong++;
            System.out.println(test + ": " + what + " does not hold");
        }
    }

    /** Checks that a call that was refused, or answered NONE, left the circuit as it was. */
    void unchanged(String what, long[] before, ShadowLatches x) {
        long[] after = everything(x);
        for (int i = 0; i < before.length; i++) {
            due(what + ", told value " + i, after[i], before[i]);
        }
    }

    void end() {
        System.out.println(test + ": " + (asked - wrong) + " of " + asked + " as due");
        if (wrong != 0) {
            System.exit(1);
        }
    }

    /** All that an object tells without arguments to choose: counts, paths, the workload. */
    static long[] everything(ShadowLatches x) {
        long[] told = new long[26 + 8 * 5 + 16];
        int next = 0;
        for (int what = 0; what < 26; what++) {
            told[next++] = x.count(what);
        }
        for (int path = 0; path < 8; path++) {
            for (int what = 0; what < 5; what++) {
                told[next++] = x.path(path, what);
            }
        }
        for (int place = 0; place < 16; place++) {
            told[next++] = x.workload(place);
        }
        return told;
    }

    static void retype(ShadowLatches x, String text) {
        x.clearText();
        for (int i = 0; i < text.length(); i++) {
            x.type(text.charAt(i));
        }
    }

    static int take(ShadowLatches x, String text) {
        retype(x, text);
        return x.takeWorkload();
    }

    /** A new object with so many paths of the length 100, and the workload of the text. */
    static ShadowLatches with(int paths, String text) {
        ShadowLatches x = new ShadowLatches();
        for (int i = 1; i < paths; i++) {
            x.addPath(100);
        }
        take(x, text);
        return x;
    }
}
