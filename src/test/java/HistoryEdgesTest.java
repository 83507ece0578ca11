import java.util.function.ToLongFunction;

/** Each boundary that the section HISTORY and the promises 12, 13 and 14 name, by itself. */
public final class HistoryEdgesTest {
    public static void main(String[] args) {
        Checks c = new Checks("HistoryEdgesTest");
        atMostFourStates(c);
        theOldestIsDropped(c);
        theLatestIsRestored(c);
        eachActRecords(c);
        noOtherCallRecords(c);
        oneSnapshotEmptyAtFirst(c);
        theTextIsNoPart(c);
        theHistoryIsNoPart(c);
        theSnapshotIsNoPart(c);
        everythingElseIsAPart(c);
        statesThatAreLeft(c);
        nothingToUndo(c);
        theSnapshotIsReplaced(c);
        theSnapshotStays(c);
        noSnapshot(c);
        c.end();
    }

    private static void atMostFourStates(Checks c) {
        c.sentence("HISTORY", "A history of at most 4 states is kept");
        ShadowLatches x = new ShadowLatches();
        int[] states = {1, 2, 3, 4, 4, 4, 4, 4, 4, 4};
        c.due("at first", x.count(24), 0);
        for (int i = 0; i < states.length; i++) {
            x.setVoltage(999 - i);
            c.due("behind act " + (i + 1), x.count(24), states[i]);
        }
        for (int left = 3; left >= 0; left--) {
            c.due("undo()", x.undo(), left);
        }
        c.due("a fifth undo()", x.undo(), Checks.NONE);
    }

    private static void theOldestIsDropped(Checks c) {
        c.sentence("HISTORY", "when one more is recorded, the oldest one is dropped");
        for (int acts = 4; acts <= 12; acts++) {
            ShadowLatches x = new ShadowLatches();
            for (int i = 1; i <= acts; i++) {
                x.setVoltage(1000 - i);
            }
            for (int back = 1; back <= 4; back++) {
                x.undo();
                c.due(back + " back of " + acts, x.count(0), 1000 - acts + back);
            }
            x.undo();
            c.due("no further back", x.count(0), 1000 - acts + 4);
        }
    }

    private static void theLatestIsRestored(Checks c) {
        c.sentence("HISTORY", "undo() removes and restores the latest one");
        ShadowLatches x = new ShadowLatches();
        x.setVoltage(900);
        x.setVoltage(800);
        x.undo();
        c.due("the latest", x.count(0), 900);
        x.setVoltage(700);
        x.undo();
        c.due("the latest again", x.count(0), 900);
        x.undo();
        c.due("the one before, since that was removed", x.count(0), 1000);
    }

    /** Each act once, with what it answers behind busy(). */
    private static ToLongFunction<ShadowLatches> act(int which) {
        switch (which) {
            case 0: return x -> x.addPath(50);
            case 1: return x -> x.setLength(0, 70);
            case 2: return ShadowLatches::takeWorkload;
            case 3: return x -> x.layWorkload(9, 1234);
            case 4: return x -> x.setVoltage(613);
            case 5: return x -> x.govern(false);
            case 6: return x -> x.set(4, 9);
            case 7: return x -> x.run(77);
            default: return ShadowLatches::restore;
        }
    }

    private static void eachActRecords(Checks c) {
        c.sentence("HISTORY", "Each call of a method that is described as an act, and returns no error and not NONE, "
            + "records the state that was before it.");
        for (int which = 0; which < 9; which++) {
            ShadowLatches x = Checks.busy();
            ShadowLatches twin = Checks.busy();
            x.undo();
            twin.undo();
            c.isTrue("act " + which + " is no error", act(which).applyAsLong(x) >= 0);
            c.due("states behind act " + which, x.count(24), 4);
            c.due("undo() of act " + which, x.undo(), 3);
            c.unchanged("undo() of act " + which, Checks.everything(twin), x);
        }
        ShadowLatches same = new ShadowLatches();
        same.layWorkload(1, 7773);
        same.layWorkload(1, 7773);
        c.due("acts that lay the same workload", same.count(24), 2);
        Checks.take(same, "-");
        same.takeWorkload();
        c.due("acts that take the same workload", same.count(24), 4);
    }

    private static void noOtherCallRecords(Checks c) {
        c.sentence("HISTORY", "Each call of a method that is described as an act");
        ShadowLatches x = new ShadowLatches();
        x.type('0');
        x.clearText();
        x.keep();
        x.path(0, 1);
        x.delay(0, 500, 20);
        x.workload(0);
        x.least(true);
        x.would(500, 10, 0);
        x.best(10);
        x.count(0);
        c.due("states behind calls that are no acts", x.count(24), 0);
        x.setVoltage(900);
        x.undo();
        c.due("nor is undo() one", x.count(24), 0);
        // An act that returns 0 returns no error.
        c.due("run(1)", x.run(1), 0);
        c.due("states behind it", x.count(24), 1);
    }

    private static void oneSnapshotEmptyAtFirst(Checks c) {
        c.sentence("HISTORY", "There is one snapshot, empty at first.");
        ShadowLatches x = new ShadowLatches();
        c.due("restore() at first", x.restore(), Checks.NONE);
        x.keep();
        c.due("restore() behind keep()", x.restore(), 1000);
        x.setVoltage(900);
        x.keep();
        c.due("restore() of the second", x.restore(), 900);
        x.undo();
        x.undo();
        c.due("restore() of the second again", x.restore(), 900);
    }

    private static void theTextIsNoPart(Checks c) {
        c.sentence("HISTORY", "A state is everything but the text, the history and the snapshot.");
        ShadowLatches x = new ShadowLatches();
        Checks.retype(x, "0,-");
        x.keep();
        x.setVoltage(900);
        Checks.retype(x, "-,-,-");
        x.undo();
        c.due("the text behind undo()", x.count(25), 5);
        x.restore();
        c.due("the text behind restore()", x.count(25), 5);
        c.due("it is the later one", x.takeWorkload(), 3);
    }

    private static void theHistoryIsNoPart(Checks c) {
        c.sentence("HISTORY", "the history and the snapshot");
        ShadowLatches x = new ShadowLatches();
        x.keep();
        x.setVoltage(900);
        x.setVoltage(800);
        x.restore();
        c.due("states behind restore()", x.count(24), 3);
        x.undo();
        c.due("the state before restore()", x.count(0), 800);
        x.undo();
        c.due("the one before that", x.count(0), 900);
    }

    private static void theSnapshotIsNoPart(Checks c) {
        c.sentence("HISTORY", "and the snapshot");
        ShadowLatches x = new ShadowLatches();
        x.setVoltage(900);
        x.keep();
        x.undo();
        c.due("the voltage behind undo()", x.count(0), 1000);
        c.due("restore() of what undo() went behind", x.restore(), 900);
    }

    private static void everythingElseIsAPart(Checks c) {
        c.sentence("HISTORY", "A state is everything");
        ShadowLatches x = Checks.busy();
        ShadowLatches twin = Checks.busy();
        x.keep();
        int up = x.count(15);
        int down = x.count(16);
        x.set(4, 0);
        x.run(100);
        c.isTrue("steps up behind the snapshot", x.count(15) > up);
        x.set(4, 100);
        x.run(100);
        c.isTrue("steps down behind the snapshot", x.count(16) > down);
        for (int which = 0; which < 8; which++) {
            act(which).applyAsLong(x);
        }
        x.restore();
        c.unchanged("restore() behind each act", Checks.everything(twin), x);
        c.due("the next complaints", x.run(100), twin.run(100));
        c.unchanged("what comes then", Checks.everything(twin), x);
    }

    private static void statesThatAreLeft(Checks c) {
        c.sentence("Promise 12", "Returns the number of states that are left");
        for (int acts = 1; acts <= 6; acts++) {
            ShadowLatches x = new ShadowLatches();
            for (int i = 1; i <= acts; i++) {
                x.setVoltage(1000 - i);
            }
            for (int left = Math.min(4, acts) - 1; left >= 0; left--) {
                c.due("undo() behind " + acts + " acts", x.undo(), left);
                c.due("count(24)", x.count(24), left);
            }
        }
    }

    private static ShadowLatches busyAndUndone() {
        ShadowLatches x = Checks.busy();
        for (int i = 0; i < 4; i++) {
            x.undo();
        }
        return x;
    }

    private static void nothingToUndo(Checks c) {
        c.sentence("Promise 12", "NONE if the history is empty");
        c.changesNothing("undo() at first", ShadowLatches::new, ShadowLatches::undo, Checks.NONE);
        c.changesNothing("undo() of all and one more", HistoryEdgesTest::busyAndUndone, ShadowLatches::undo, Checks.NONE);
        ShadowLatches x = busyAndUndone();
        x.setVoltage(555);
        c.due("undo() of a new act", x.undo(), 0);
        c.due("undo() then", x.undo(), Checks.NONE);
    }

    private static void theSnapshotIsReplaced(Checks c) {
        c.sentence("Promise 13", "Takes a snapshot of the state, in place of the one that was.");
        ShadowLatches x = new ShadowLatches();
        c.due("keep()", x.keep(), 1000);
        x.setVoltage(500);
        c.due("keep() at the least voltage", x.keep(), 500);
        x.setVoltage(1200);
        c.due("keep() at the greatest voltage", x.keep(), 1200);
        x.setVoltage(700);
        c.due("restore()", x.restore(), 1200);
        c.due("states: keep() is no act", x.count(24), 4);
        x.undo();
        x.undo();
        x.undo();
        x.undo();
        c.due("all the way back", x.count(0), 1000);
    }

    private static void theSnapshotStays(Checks c) {
        c.sentence("Promise 14", "Restores the state of the snapshot, which stays.");
        ShadowLatches x = Checks.late();
        x.run(3);
        x.keep();
        for (int i = 0; i < 6; i++) {
            x.run(10);
            x.set(2, 6 + i);
            c.due("restore()", x.restore(), 1000);
            c.due("complaints", x.count(5), 3);
            c.due("the setting", x.count(19), 5);
        }
        c.due("restore() of the same state is an act, too", x.restore(), 1000);
        x.undo();
        c.due("behind it is the same state", x.count(5), 3);
        x.undo();
        c.due("then the one before the last restore()", x.count(5), 13);
    }

    private static void noSnapshot(Checks c) {
        c.sentence("Promise 14", "NONE if there is no snapshot");
        c.changesNothing("restore() at first", ShadowLatches::new, ShadowLatches::restore, Checks.NONE);
        c.changesNothing("restore() behind acts", Checks::late, ShadowLatches::restore, Checks.NONE);
        c.due("restore() of a snapshot of a new circuit", Checks.kept().restore(), 1000);
    }
}
