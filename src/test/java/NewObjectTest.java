/** Promise 1, and the constants of the face. */
public final class NewObjectTest {
    public static void main(String[] args) {
        Checks c = new Checks("NewObjectTest");
        c.due("UNKNOWN", ShadowLatches.UNKNOWN, -1);
        c.due("BAD_VALUE", ShadowLatches.BAD_VALUE, -2);
        c.due("FULL", ShadowLatches.FULL, -3);
        c.due("NOT_POSSIBLE", ShadowLatches.NOT_POSSIBLE, -4);
        c.due("NONE", ShadowLatches.NONE, -5);
        aNewObject(c, new ShadowLatches());
        objectsAreApart(c);
        c.end();
    }

    private static void aNewObject(Checks c, ShadowLatches x) {
        int[] due = {1000, 20, 0, 0, 0, 0, 0, 0, 0, 0, 1, 0, 1, 0, 0, 0, 0, 200, 40, 5, 100, 2, 10, 4, 0, 0};
        for (int what = 0; what < due.length; what++) {
            c.due("count(" + what + ")", x.count(what), due[what]);
        }
        int[] path = {100, 142, 0, 0, 0};
        for (int what = 0; what < path.length; what++) {
            c.due("path(0, " + what + ")", x.path(0, what), path[what]);
        }
        c.due("path(1, 0)", x.path(1, 0), Checks.UNKNOWN);
        c.due("workload(0)", x.workload(0), 0);
        c.due("workload(1)", x.workload(1), Checks.NONE);
        c.due("least(true)", x.least(true), 500);
        c.due("least(false)", x.least(false), 500);
        c.due("best(1)", x.best(1), 500);
        c.due("undo()", x.undo(), Checks.NONE);
        c.due("restore()", x.restore(), Checks.NONE);
        c.due("takeWorkload() of the empty text", x.takeWorkload(), -100);
    }

    private static void objectsAreApart(Checks c) {
        ShadowLatches one = new ShadowLatches();
        ShadowLatches other = new ShadowLatches();
        one.addPath(300);
        one.set(0, 500);
        one.setVoltage(600);
        one.type('x');
        one.keep();
        aNewObject(c, other);
        aNewObject(c, new ShadowLatches());
    }
}
