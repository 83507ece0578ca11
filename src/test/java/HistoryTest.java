/** Promises 12, 13 and 14. */
public final class HistoryTest {
    public static void main(String[] args) {
        Checks c = new Checks("HistoryTest");
        fourStatesAreKept(c);
        everyActIsRecordedAndUndone(c);
        stepsAreUndoneAndRestored(c);
        theSnapshotStays(c);
        theSnapshotIsReplaced(c);
        theSnapshotIsNoPartOfTheState(c);
        theTextIsNoPartOfTheState(c);
        c.end();
    }

    private static void fourStatesAreKept(Checks c) {
        ShadowLatches x = new ShadowLatches();
        c.due("undo() of nothing", x.undo(), Checks.NONE);
        for (int i = 1; i <= 7; i++) {
            x.setVoltage(1000 - i);
            c.due("count(24)", x.count(24), Math.min(4, i));
        }
        for (int left = 3; left >= 0; left--) {
            c.due("undo()", x.undo(), left);
            c.due("the voltage then", x.count(0), 993 + (4 - left));
            c.due("count(24) then", x.count(24), left);
        }
        long[] before = Checks.everything(x);
        c.due("undo() of nothing left", x.undo(), Checks.NONE);
        c.unchanged("undo() of nothing", before, x);
        x.setVoltage(800);
        x.setVoltage(700);
        c.due("undo() of a new one", x.undo(), 1);
        c.due("its voltage", x.count(0), 800);
        c.due("undo() of the one before", x.undo(), 0);
        c.due("its voltage too", x.count(0), 997);
    }

    private static void everyActIsRecordedAndUndone(Checks c) {
        for (int act = 0; act < 9; act++) {
            ShadowLatches x = Checks.with(2, "0,1,01");
            x.set(0, 150);
            x.set(1, 200);
            x.set(3, 10);
            x.govern(true);
            x.setLength(1, 120);
            x.run(8);
            x.keep();
            x.run(3);
            long[] before = Checks.everything(x);
            before[24] = 3;
            int answer = act(x, act);
            c.isTrue("act " + act + " is no error", answer >= 0);
            c.due("act " + act + " is recorded", x.count(24), 4);
            c.due("undo() of act " + act, x.undo(), 3);
            c.unchanged("undo() of act " + act, before, x);
        }
    }

    private static void stepsAreUndoneAndRestored(Checks c) {
        ShadowLatches x = Checks.with(1, "0");
        x.set(3, 10);
        x.govern(true);
        x.run(20);
        x.setVoltage(700);
        x.setLength(0, 90);
        x.set(0, 50);
        x.set(1, 200);
        // 90000 / 400 = 225, and 230 by the heat: late, with a replay of five; five windows of two cycles each.
        x.set(4, 1);
        c.due("run(10)", x.run(10), 10);
        c.due("steps down", x.count(16), 2);
        c.due("steps up", x.count(15), 5);
        long[] before = Checks.everything(x);
        x.keep();
        x.run(10);
        c.isTrue("more steps up", x.count(15) > 5);
        x.set(4, 100);
        x.run(10);
        c.isTrue("more steps down", x.count(16) > 2);
        x.restore();
        c.unchanged("restore() of steps", before, x);
        x.run(10);
        x.undo();
        before[24] = 3;
        c.unchanged("undo() of steps", before, x);
    }

    private static int act(ShadowLatches x, int which) {
        switch (which) {
            case 0: return x.addPath(50);
            case 1: return x.setLength(0, 70);
            case 2: return x.takeWorkload();
            case 3: return x.layWorkload(9, 1234);
            case 4: return x.setVoltage(613);
            case 5: return x.govern(false);
            case 6: return x.set(4, 9);
            case 7: return x.run(77);
            default: return x.restore();
        }
    }

    private static void theSnapshotStays(Checks c) {
        ShadowLatches x = Checks.with(1, "0");
        long[] before = Checks.everything(x);
        c.due("restore() of nothing", x.restore(), Checks.NONE);
        c.unchanged("restore() of nothing", before, x);
        x.setVoltage(900);
        x.run(5);
        c.due("keep()", x.keep(), 900);
        c.due("keep() is no act", x.count(24), 3);
        before = Checks.everything(x);
        x.setVoltage(600);
        x.run(9);
        c.due("restore()", x.restore(), 900);
        c.due("it is an act", x.count(24), 4);
        before[24] = 4;
        c.unchanged("restore()", before, x);
        x.run(3);
        c.due("restore() again", x.restore(), 900);
        c.unchanged("restore() again", before, x);
        c.due("restore() of the same state", x.restore(), 900);
        c.unchanged("restore() of the same state", before, x);
        c.due("undo() of it", x.undo(), 3);
        c.due("undo() of the other", x.undo(), 2);
        c.due("the cycles before it", x.count(3), 8);
    }

    private static void theSnapshotIsReplaced(Checks c) {
        ShadowLatches x = new ShadowLatches();
        x.keep();
        x.setVoltage(800);
        c.due("keep()", x.keep(), 800);
        x.setVoltage(700);
        c.due("restore()", x.restore(), 800);
        c.due("count(0)", x.count(0), 800);
    }

    private static void theSnapshotIsNoPartOfTheState(Checks c) {
        ShadowLatches x = new ShadowLatches();
        x.setVoltage(800);
        x.keep();
        x.undo();
        c.due("undo() leaves the snapshot", x.restore(), 800);
        x.undo();
        c.due("undo() of restore()", x.count(0), 1000);
        c.due("the history is no part either", x.count(24), 0);
    }

    private static void theTextIsNoPartOfTheState(Checks c) {
        ShadowLatches x = new ShadowLatches();
        x.type('0');
        x.keep();
        x.setVoltage(800);
        x.type('-');
        x.undo();
        c.due("undo() leaves the text", x.count(25), 2);
        x.restore();
        c.due("restore() leaves the text", x.count(25), 2);
        c.due("whose fault is still told", x.takeWorkload(), -101);
    }
}
