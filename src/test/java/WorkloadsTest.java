/** Promises 4, 5, 10, 11 and 17. */
public final class WorkloadsTest {
    public static void main(String[] args) {
        Checks c = new Checks("WorkloadsTest");
        faultsAreFound(c);
        theTextIsBounded(c);
        workloadsAreTaken(c);
        aPathMayNotBeThere(c);
        workloadsAreLaid(c);
        placesAreTold(c);
        c.end();
    }

    private static void faultsAreFound(Checks c) {
        ShadowLatches x = Checks.with(8, "0");
        String[] texts = {"", ",", "8", " ", "/", "x", "-,", "0,", "--", "0-", "-0", "-7", "00", "10", "76", "01234567" + "7",
            "0,,1", "0,8", "01,-,2,", "07 ", "0.", "\u0130", "\u00e9", "\u0000"};
        int[] faults = {0, 0, 0, 0, 0, 0, 2, 2, 1, 1, 1, 1, 1, 1, 1, 8,
            2, 2, 7, 2, 1, 0, 0, 0};
        long[] before = Checks.everything(x);
        for (int i = 0; i < texts.length; i++) {
            c.due("takeWorkload() of '" + texts[i] + "'", Checks.take(x, texts[i]), -100 - faults[i]);
        }
        Checks.retype(x, "0");
        c.unchanged("takeWorkload() of a text with a fault", before, x);
        c.due("seventeen sets", Checks.take(x, "-,-,-,-,-,-,-,-,-,-,-,-,-,-,-,-,-"), -131);
        c.due("sixteen and a comma", Checks.take(x, "-,-,-,-,-,-,-,-,-,-,-,-,-,-,-,-,"), -131);
        c.due("fifteen and a comma", Checks.take(x, "-,-,-,-,-,-,-,-,-,-,-,-,-,-,-,"), -130);
        c.due("sixteen and a digit too many", Checks.take(x, "-,-,-,-,-,-,-,-,-,-,-,-,-,-,-,77"), -131);
        c.due("sixteen", Checks.take(x, "-,-,-,-,-,-,-,-,-,-,-,-,-,-,-,-"), 16);
    }

    private static void theTextIsBounded(Checks c) {
        ShadowLatches x = new ShadowLatches();
        c.due("clearText() of none", x.clearText(), 0);
        for (int i = 1; i <= 60; i++) {
            c.due("type", x.type(i < 60 ? (char) (i * 1000) : '-'), i);
            c.due("count(25)", x.count(25), i);
        }
        c.due("type when full", x.type('0'), Checks.FULL);
        c.due("count(25) when full", x.count(25), 60);
        c.due("a full text's fault", x.takeWorkload(), -100);
        c.due("count(24): texts are no acts", x.count(24), 0);
        c.due("clearText()", x.clearText(), 60);
        c.due("count(25)", x.count(25), 0);
        c.due("clearText() again", x.clearText(), 0);
        c.due("nothing is left", x.takeWorkload(), -100);
        c.due("type", x.type('0'), 1);
        c.due("only the new character", x.takeWorkload(), 1);
        for (int i = 1; i < 8; i++) {
            x.addPath(100);
        }
        // 60 characters: six sets of eight paths with their commas, then six characters more.
        String long54 = "01234567,01234567,01234567,01234567,01234567,01234567,";
        c.due("60 characters", Checks.take(x, long54 + "234567"), 7);
        c.due("their last set", x.workload(6), 252);
        c.due("they end too early", Checks.take(x, long54 + "01,23,"), -160);
    }

    private static void workloadsAreTaken(Checks c) {
        ShadowLatches x = Checks.with(8, "0,1,2");
        x.run(2);
        c.due("the place", x.count(11), 2);
        c.due("takeWorkload()", Checks.take(x, "01234567,-,7"), 3);
        c.due("it begins with its first set", x.count(11), 0);
        c.due("workload(0)", x.workload(0), 255);
        c.due("workload(1)", x.workload(1), 0);
        c.due("workload(2)", x.workload(2), 128);
        c.due("count(10)", x.count(10), 3);
        c.due("count(25): the text stays", x.count(25), 12);
        x.run(1);
        c.due("the same again", x.takeWorkload(), 3);
        c.due("its place", x.count(11), 0);
        c.due("undo() of it", x.undo(), 3);
        c.due("the place that was", x.count(11), 1);
        c.due("a shorter one", Checks.take(x, "5"), 1);
        c.due("workload(0) of it", x.workload(0), 32);
        c.due("workload(1) of it", x.workload(1), Checks.NONE);
        c.due("path(7, 4)", x.path(7, 4), 0);
        Checks.take(x, "0,7");
        Checks.take(x, "5");
        x.setLength(7, 400);
        c.due("path(7, 4): nothing is left of a longer one", x.path(7, 4), 0);
        c.due("least(true) of it", x.least(true), 715);
        x.undo();
        x.undo();
        x.undo();
        x.undo();
        c.due("undo() leaves the text", x.count(25), 1);
        c.due("and brings the workload", x.workload(2), 128);
    }

    private static void aPathMayNotBeThere(Checks c) {
        ShadowLatches x = Checks.with(7, "0,1,2");
        x.run(1);
        long[] before = Checks.everything(x);
        Checks.retype(x, "0,-,7");
        before[25] = 5;
        c.due("path 7 of 7", x.takeWorkload(), Checks.UNKNOWN);
        c.unchanged("takeWorkload() without the path", before, x);
        c.due("path 7 in the first set", Checks.take(x, "7,0"), Checks.UNKNOWN);
        c.due("a fault comes first", Checks.take(x, "7,"), -102);
        c.due("a fault behind it too", Checks.take(x, "7,65"), -103);
        c.due("path 6 of 7", Checks.take(x, "6"), 1);
        x.addPath(100);
        c.due("path 7 of 8", Checks.take(x, "7"), 1);
        c.due("its set", x.workload(0), 128);
    }

    private static void workloadsAreLaid(Checks c) {
        ShadowLatches x = new ShadowLatches();
        x.addPath(100);
        x.addPath(100);
        // The seeds behind 77: 4080, 9343, 5066, 4449, 4692.
        int[] seeds = {4080, 9343, 5066, 4449, 4692};
        int[] sets = {255 % 8, 583 % 8, 316 % 8, 278 % 8, 293 % 8};
        c.due("layWorkload(5, 77)", x.layWorkload(5, 77), 3 + 3 + 1 + 2 + 2);
        c.due("count(10)", x.count(10), seeds.length);
        for (int i = 0; i < sets.length; i++) {
            c.due("workload(" + i + ")", x.workload(i), sets[i]);
        }
        x.run(3);
        c.due("the place", x.count(11), 3);
        c.due("layWorkload(1, 0)", x.layWorkload(1, 0), 3);
        c.due("it begins with its first set", x.count(11), 0);
        c.due("workload(0)", x.workload(0), 1663 / 16 % 8);
        c.due("workload(1)", x.workload(1), Checks.NONE);
        long[] before = Checks.everything(x);
        int[][] bad = {{0, 0}, {17, 0}, {1, -1}, {1, 10000}, {-1, -1}, {Integer.MIN_VALUE, 5}, {Integer.MAX_VALUE, 5},
            {5, Integer.MIN_VALUE}, {5, Integer.MAX_VALUE}};
        for (int[] b : bad) {
            c.due("layWorkload(" + b[0] + ", " + b[1] + ")", x.layWorkload(b[0], b[1]), Checks.BAD_VALUE);
        }
        c.unchanged("a refused layWorkload", before, x);
        // (421 * 9999 + 1663) % 10000 = 1242
        c.due("layWorkload(1, 9999)", x.layWorkload(1, 9999), Integer.bitCount(1242 / 16 % 8));
        c.due("workload(0) of it", x.workload(0), 1242 / 16 % 8);
        c.due("undo()", x.undo(), 3);
        c.due("workload(0) then", x.workload(0), 1663 / 16 % 8);
    }

    private static void placesAreTold(Checks c) {
        ShadowLatches x = new ShadowLatches();
        x.layWorkload(16, 1);
        c.isTrue("workload(15) is a set", x.workload(15) >= 0);
        c.due("workload(16)", x.workload(16), Checks.NONE);
        c.due("workload(MAX)", x.workload(Integer.MAX_VALUE), Checks.NONE);
        c.due("workload(-1)", x.workload(-1), Checks.BAD_VALUE);
        c.due("workload(MIN)", x.workload(Integer.MIN_VALUE), Checks.BAD_VALUE);
    }
}
