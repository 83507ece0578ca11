/** Each boundary that the section ERRORS names: the constants, the order of the checks, and that errors change nothing. */
public final class ErrorsEdgesTest {
    public static void main(String[] args) {
        Checks c = new Checks("ErrorsEdgesTest");
        theConstants(c);
        valuesBeforeFull(c);
        pathsBeforeValues(c);
        faultsBeforePaths(c);
        noneOnlyIfNoErrorApplies(c);
        errorsChangeNothing(c);
        whatIsToldChangesNothing(c);
        c.end();
    }

    private static void theConstants(Checks c) {
        c.sentence("ERRORS", "`UNKNOWN = -1`");
        c.due("UNKNOWN", ShadowLatches.UNKNOWN, -1);
        c.sentence("ERRORS", "`BAD_VALUE = -2`");
        c.due("BAD_VALUE", ShadowLatches.BAD_VALUE, -2);
        c.sentence("ERRORS", "`FULL = -3`");
        c.due("FULL", ShadowLatches.FULL, -3);
        c.sentence("ERRORS", "`NOT_POSSIBLE = -4`");
        c.due("NOT_POSSIBLE", ShadowLatches.NOT_POSSIBLE, -4);
        c.sentence("ERRORS", "`NONE = -5`");
        c.due("NONE", ShadowLatches.NONE, -5);
    }

    private static final String ORDER = "Where several errors can apply, the order of the @return line is the order of the checks.";

    private static void valuesBeforeFull(Checks c) {
        c.sentence("ERRORS", ORDER);
        c.due("addPath(9) when full", Checks.with(8, "-").addPath(9), Checks.BAD_VALUE);
        c.due("addPath(401) when full", Checks.with(8, "-").addPath(401), Checks.BAD_VALUE);
        c.due("addPath(10) when full", Checks.with(8, "-").addPath(10), Checks.FULL);
        c.due("addPath(400) when full", Checks.with(8, "-").addPath(400), Checks.FULL);
    }

    private static void pathsBeforeValues(Checks c) {
        c.sentence("ERRORS", ORDER);
        for (int path : new int[] {-1, 1, 8}) {
            c.due("setLength(" + path + ", 9)", new ShadowLatches().setLength(path, 9), Checks.UNKNOWN);
            c.due("setLength(" + path + ", 401)", new ShadowLatches().setLength(path, 401), Checks.UNKNOWN);
            c.due("path(" + path + ", -1)", new ShadowLatches().path(path, -1), Checks.UNKNOWN);
            c.due("path(" + path + ", 5)", new ShadowLatches().path(path, 5), Checks.UNKNOWN);
            c.due("delay(" + path + ", 499, 20)", new ShadowLatches().delay(path, 499, 20), Checks.UNKNOWN);
            c.due("delay(" + path + ", 500, 121)", new ShadowLatches().delay(path, 500, 121), Checks.UNKNOWN);
        }
    }

    private static void faultsBeforePaths(Checks c) {
        c.sentence("ERRORS", ORDER);
        c.due("an unknown path, then a fault", Checks.take(new ShadowLatches(), "1,"), -102);
        c.due("an unknown path that is the fault, too", Checks.take(new ShadowLatches(), "11"), -101);
        c.due("an unknown path alone", Checks.take(new ShadowLatches(), "1"), Checks.UNKNOWN);
    }

    private static void noneOnlyIfNoErrorApplies(Checks c) {
        c.sentence("ERRORS", "NONE is no error; it is returned only if no error applies.");
        ShadowLatches x = Checks.lost();
        c.due("best(200), where all lose", x.best(200), Checks.NONE);
        c.due("best(0)", x.best(0), Checks.BAD_VALUE);
        c.due("best(201)", x.best(201), Checks.BAD_VALUE);
        c.due("workload(1), where there is one", x.workload(1), Checks.NONE);
        c.due("workload(-1)", x.workload(-1), Checks.BAD_VALUE);
        // 100 is the length of a path that was, and 0 that of those that are not there.
        c.due("setLength(1, 0)", x.setLength(1, 0), Checks.UNKNOWN);
        c.due("setLength(1, 400)", x.setLength(1, 400), Checks.UNKNOWN);
        c.due("setLength(0, 400)", x.setLength(0, 400), Checks.NONE);
        c.due("set(7, 200)", x.set(7, 200), Checks.BAD_VALUE);
        c.due("set(0, 200)", x.set(0, 200), Checks.NONE);
    }

    private static ShadowLatches busyWithFault() {
        ShadowLatches x = Checks.busy();
        x.type('1');
        return x;
    }

    /** Each method that can refuse, once; the tests of its promise refuse each of its arguments in this way. */
    private static void errorsChangeNothing(Checks c) {
        c.sentence("ERRORS", "A call that returns an error or NONE changes nothing.");
        for (int what = 0; what < 26; what++) {
            // 14 alone, the lost paths, is 0: a number that is 0 could hide that a call sets it to 0.
            c.isTrue("busy() has something to lose in count(" + what + ")", what == 14 || Checks.busy().count(what) > 0);
        }
        c.changesNothing("addPath", Checks::busy, x -> x.addPath(9), Checks.BAD_VALUE);
        c.changesNothing("addPath when full", () -> Checks.with(8, "01,7"), x -> x.addPath(50), Checks.FULL);
        c.changesNothing("setLength", Checks::busy, x -> x.setLength(3, 50), Checks.UNKNOWN);
        c.changesNothing("takeWorkload", ErrorsEdgesTest::busyWithFault, ShadowLatches::takeWorkload, -104);
        c.changesNothing("layWorkload", Checks::busy, x -> x.layWorkload(17, 5), Checks.BAD_VALUE);
        c.changesNothing("setVoltage", Checks::busy, x -> x.setVoltage(1201), Checks.BAD_VALUE);
        c.changesNothing("govern", Checks::busy, x -> x.govern(true), Checks.NONE);
        c.changesNothing("set", Checks::busy, x -> x.set(0, 49), Checks.BAD_VALUE);
        c.changesNothing("run", Checks::busy, x -> x.run(2001), Checks.BAD_VALUE);
        c.changesNothing("undo", Checks::kept, ShadowLatches::undo, Checks.NONE);
        c.changesNothing("restore", Checks::late, ShadowLatches::restore, Checks.NONE);
        c.changesNothing("path", Checks::busy, x -> x.path(0, 5), Checks.BAD_VALUE);
        c.changesNothing("delay", Checks::busy, x -> x.delay(0, 499, 20), Checks.BAD_VALUE);
        c.changesNothing("workload", Checks::busy, x -> x.workload(4), Checks.NONE);
        c.changesNothing("least", Checks::lost, x -> x.least(true), Checks.NONE);
        c.changesNothing("would", Checks::busy, x -> x.would(500, 501, 0), Checks.BAD_VALUE);
        c.changesNothing("best", Checks::lost, x -> x.best(10), Checks.NONE);
        c.changesNothing("count", Checks::busy, x -> x.count(26), Checks.BAD_VALUE);
    }

    private static void whatIsToldChangesNothing(Checks c) {
        c.sentence("Not promised", "Nothing is promised beyond the answers and state changes described above");
        for (int what = 0; what < 26; what++) {
            int asked = what;
            c.changesNothing("count", Checks::busy, x -> x.count(asked), Checks.busy().count(what));
        }
        for (int what = 0; what < 5; what++) {
            int asked = what;
            c.changesNothing("path", Checks::busy, x -> x.path(1, asked), Checks.busy().path(1, what));
            c.changesNothing("would", Checks::busy, x -> x.would(900, 500, asked), Checks.busy().would(900, 500, what));
        }
        c.changesNothing("delay", Checks::busy, x -> x.delay(0, 500, 120), 750);
        c.changesNothing("workload", Checks::busy, x -> x.workload(1), 6);
        c.changesNothing("least", Checks::busy, x -> x.least(false), Checks.busy().least(false));
        c.changesNothing("best", Checks::busy, x -> x.best(200), Checks.busy().best(200));
    }
}
