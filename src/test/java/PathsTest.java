/** Promises 2, 3, 15 and 16. */
public final class PathsTest {
    public static void main(String[] args) {
        Checks c = new Checks("PathsTest");
        pathsAreAdded(c);
        lengthsAreChanged(c);
        delaysAreTold(c);
        delaysRoundDownTwice(c);
        pathsAreRightLateOrLost(c);
        usesAreCounted(c);
        c.end();
    }

    private static void pathsAreAdded(Checks c) {
        ShadowLatches x = new ShadowLatches();
        long[] before = Checks.everything(x);
        for (int length : new int[] {9, 401, 0, -1, Integer.MIN_VALUE, Integer.MAX_VALUE}) {
            c.due("addPath(" + length + ")", x.addPath(length), Checks.BAD_VALUE);
        }
        c.unchanged("a refused addPath", before, x);
        for (int number = 1; number < 8; number++) {
            c.due("addPath", x.addPath(number == 1 ? 10 : 390 + number + (number == 7 ? 3 : 0)), number);
            c.due("count(12)", x.count(12), number + 1);
        }
        c.due("path(1, 0)", x.path(1, 0), 10);
        c.due("path(7, 0)", x.path(7, 0), 400);
        before = Checks.everything(x);
        c.due("addPath of a ninth", x.addPath(100), Checks.FULL);
        c.due("addPath, both errors", x.addPath(9), Checks.BAD_VALUE);
        c.unchanged("addPath when full", before, x);
        c.due("count(24)", x.count(24), 4);
        c.due("undo()", x.undo(), 3);
        c.due("count(12) then", x.count(12), 7);
        c.due("path(7, 0) then", x.path(7, 0), Checks.UNKNOWN);
        c.due("addPath again", x.addPath(55), 7);
        c.due("path(7, 0) again", x.path(7, 0), 55);
    }

    private static void lengthsAreChanged(Checks c) {
        ShadowLatches x = new ShadowLatches();
        c.due("setLength(0, 10)", x.setLength(0, 10), 100);
        c.due("setLength(0, 400)", x.setLength(0, 400), 10);
        c.due("path(0, 0)", x.path(0, 0), 400);
        c.due("count(24)", x.count(24), 2);
        long[] before = Checks.everything(x);
        c.due("the same length", x.setLength(0, 400), Checks.NONE);
        c.due("too short", x.setLength(0, 9), Checks.BAD_VALUE);
        c.due("too long", x.setLength(0, 401), Checks.BAD_VALUE);
        for (int path : new int[] {1, -1, 8, Integer.MIN_VALUE, Integer.MAX_VALUE}) {
            c.due("no such path", x.setLength(path, 100), Checks.UNKNOWN);
            c.due("no such path, nor length", x.setLength(path, 9), Checks.UNKNOWN);
        }
        c.unchanged("a refused setLength", before, x);
        c.due("undo()", x.undo(), 1);
        c.due("path(0, 0) then", x.path(0, 0), 10);
    }

    private static void delaysAreTold(Checks c) {
        ShadowLatches x = new ShadowLatches();
        x.setLength(0, 400);
        c.due("the slowest", x.delay(0, 500, 120), 3000);
        c.due("500, 20", x.delay(0, 500, 20), 2000);
        c.due("1200, 20", x.delay(0, 1200, 20), 444);
        c.due("1200, 120", x.delay(0, 1200, 120), 666);
        long[] before = Checks.everything(x);
        int[][] bad = {{499, 20}, {1201, 20}, {500, 19}, {500, 121}, {300, 20}, {Integer.MIN_VALUE, 20},
            {Integer.MAX_VALUE, 20}, {500, Integer.MIN_VALUE}, {500, Integer.MAX_VALUE}};
        for (int[] b : bad) {
            c.due("delay(0, " + b[0] + ", " + b[1] + ")", x.delay(0, b[0], b[1]), Checks.BAD_VALUE);
            c.due("delay(1, " + b[0] + ", " + b[1] + ")", x.delay(1, b[0], b[1]), Checks.UNKNOWN);
        }
        c.due("delay(-1, 500, 20)", x.delay(-1, 500, 20), Checks.UNKNOWN);
        c.due("delay(8, 500, 20)", x.delay(8, 500, 20), Checks.UNKNOWN);
        c.unchanged("delay", before, x);
    }

    private static void delaysRoundDownTwice(Checks c) {
        ShadowLatches x = new ShadowLatches();
        // 100 * 1000 / 700 = 142.85..: 142 * 1250 / 1000 = 177.5, where 142.85.. * 1.25 would be 178.5..
        c.due("delay(0, 1000, 70)", x.delay(0, 1000, 70), 177);
        // 142 * 1005 / 1000 = 142.71
        c.due("delay(0, 1000, 21)", x.delay(0, 1000, 21), 142);
        c.due("delay(0, 500, 21)", x.delay(0, 500, 21), 502);
    }

    private static void pathsAreRightLateOrLost(Checks c) {
        ShadowLatches x = new ShadowLatches();
        x.set(1, 10);
        int[][] rows = {{142, 0}, {141, 1}, {132, 1}, {131, 2}};
        for (int[] row : rows) {
            x.set(0, row[0]);
            c.due("path(0, 2) with " + row[0], x.path(0, 2), row[1]);
            c.due("count(13) with " + row[0], x.count(13), row[1] == 1 ? 1 : 0);
            c.due("count(14) with " + row[0], x.count(14), row[1] == 2 ? 1 : 0);
        }
        c.due("path(0, 1)", x.path(0, 1), 142);
        for (int what : new int[] {-1, 5, Integer.MIN_VALUE, Integer.MAX_VALUE}) {
            c.due("path(0, " + what + ")", x.path(0, what), Checks.BAD_VALUE);
            c.due("path(1, " + what + ")", x.path(1, what), Checks.UNKNOWN);
        }
        c.due("path(-1, 0)", x.path(-1, 0), Checks.UNKNOWN);
        c.due("path(8, 0)", x.path(8, 0), Checks.UNKNOWN);
    }

    private static void usesAreCounted(Checks c) {
        ShadowLatches x = Checks.with(3, "0,01,-,12");
        c.due("run(6)", x.run(6), 0);
        for (int path = 0; path < 3; path++) {
            c.due("sets with path " + path, x.path(path, 4), path == 2 ? 1 : 2);
        }
        c.due("uses of 0", x.path(0, 3), 4);
        c.due("uses of 1", x.path(1, 3), 3);
        c.due("uses of 2", x.path(2, 3), 1);
        // Uses of lost and of late cycles count; replays use nothing.
        x.set(0, 50);
        x.set(1, 0);
        x.run(2);
        c.due("uses of 2 behind a lost cycle", x.path(2, 3), 2);
        x.set(1, 200);
        c.due("run(2), late", x.run(2), 2);
        c.due("uses of 0 behind late cycles", x.path(0, 3), 6);
        c.due("uses of 1 behind late cycles", x.path(1, 3), 5);
    }
}
