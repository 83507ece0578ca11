/** Each boundary that the section PATHS and the promises 1, 2, 3, 15 and 16 name, by itself. */
public final class PathsEdgesTest {
    public static void main(String[] args) {
        Checks c = new Checks("PathsEdgesTest");
        oneToEightPaths(c);
        oneOfTheLength100AtFirst(c);
        lengths10To400(c);
        voltages500To1200(c);
        theGovernorKeepsToTheVoltages(c);
        heats20To120(c);
        delaysRoundDownOverTheVoltage(c);
        delaysRoundDownOverTheHeat(c);
        rightUpToTheTime(c);
        lateUpToBothTogether(c);
        lostAbove(c);
        aNewCircuit(c);
        addingLengths(c);
        addingWhenFull(c);
        settingLengthsOfPaths(c);
        settingLengths(c);
        settingTheSameLength(c);
        whatIsAskedOfAPath(c);
        howOftenAPathWasUsed(c);
        inHowManySetsAPathIs(c);
        unknownPathsAreNotTold(c);
        delaysOfPaths(c);
        delaysAtVoltages(c);
        delaysAtHeats(c);
        c.end();
    }

    private static void oneToEightPaths(Checks c) {
        c.sentence("PATHS", "There are 1 to 8 paths, numbered from 0");
        ShadowLatches x = new ShadowLatches();
        c.due("paths at first", x.count(12), 1);
        c.due("path(0, 0)", x.path(0, 0), 100);
        c.due("path(-1, 0)", x.path(-1, 0), Checks.UNKNOWN);
        c.due("path(1, 0)", x.path(1, 0), Checks.UNKNOWN);
        for (int number = 1; number <= 7; number++) {
            c.due("the path before it is there", x.path(number - 1, 3), 0);
            c.due("it is not there yet", x.path(number, 3), Checks.UNKNOWN);
            c.due("addPath(100)", x.addPath(100), number);
        }
        c.due("paths at most", x.count(12), 8);
        c.due("path(7, 0)", x.path(7, 0), 100);
        c.due("path(8, 0)", x.path(8, 0), Checks.UNKNOWN);
        c.due("addPath(100) of a ninth", x.addPath(100), Checks.FULL);
        c.due("paths then", x.count(12), 8);
    }

    private static void oneOfTheLength100AtFirst(Checks c) {
        c.sentence("PATHS", "(one with the length 100 at first)");
        ShadowLatches x = new ShadowLatches();
        c.due("count(12)", x.count(12), 1);
        c.due("path(0, 0)", x.path(0, 0), 100);
    }

    private static void lengths10To400(Checks c) {
        c.sentence("PATHS", "a path has a length (10 to 400)");
        ShadowLatches x = new ShadowLatches();
        c.due("addPath(9)", x.addPath(9), Checks.BAD_VALUE);
        c.due("addPath(10)", x.addPath(10), 1);
        c.due("its length", x.path(1, 0), 10);
        c.due("addPath(401)", x.addPath(401), Checks.BAD_VALUE);
        c.due("addPath(400)", x.addPath(400), 2);
        c.due("its length", x.path(2, 0), 400);
        // The least and the greatest delay there are.
        c.due("delay(1, 1200, 20)", x.delay(1, 1200, 20), 11);
        c.due("delay(2, 500, 120)", x.delay(2, 500, 120), 3000);
    }

    private static void voltages500To1200(Checks c) {
        c.sentence("PATHS", "The voltage is 500 to 1200 (1000 at first), in thousandths of volts");
        ShadowLatches x = new ShadowLatches();
        c.due("at first", x.count(0), 1000);
        c.due("setVoltage(499)", x.setVoltage(499), Checks.BAD_VALUE);
        c.due("the voltage then", x.count(0), 1000);
        c.due("setVoltage(500)", x.setVoltage(500), 1000);
        c.due("the voltage then", x.count(0), 500);
        c.due("setVoltage(1201)", x.setVoltage(1201), Checks.BAD_VALUE);
        c.due("the voltage then", x.count(0), 500);
        c.due("setVoltage(1200)", x.setVoltage(1200), 500);
        c.due("the voltage then", x.count(0), 1200);
    }

    private static void theGovernorKeepsToTheVoltages(Checks c) {
        c.sentence("PATHS", "The voltage is 500 to 1200");
        ShadowLatches down = new ShadowLatches();
        down.set(3, 10);
        down.set(5, 50);
        down.govern(true);
        down.setVoltage(501);
        down.run(2000);
        c.due("behind two hundred steps down", down.count(0), 500);
        ShadowLatches up = Checks.late();
        up.set(3, 10);
        up.set(4, 0);
        up.set(5, 50);
        up.set(6, 10);
        up.setVoltage(1199);
        up.govern(true);
        up.run(2000);
        c.due("behind many steps up", up.count(0), 1200);
    }

    private static void heats20To120(Checks c) {
        c.sentence("PATHS", "heat is 20 to 120 degrees (20 at first)");
        ShadowLatches x = new ShadowLatches();
        c.due("at first", x.count(1), 20);
        x.run(2000);
        c.due("without paths in use it stays", x.count(1), 20);
        c.due("delay(0, 800, 19)", x.delay(0, 800, 19), Checks.BAD_VALUE);
        c.due("delay(0, 800, 20)", x.delay(0, 800, 20), 200);
        c.due("delay(0, 800, 120)", x.delay(0, 800, 120), 300);
        c.due("delay(0, 800, 121)", x.delay(0, 800, 121), Checks.BAD_VALUE);
    }

    private static void delaysRoundDownOverTheVoltage(Checks c) {
        c.sentence("PATHS", "length * 1000 / (voltage - 300), rounded down");
        ShadowLatches x = new ShadowLatches();
        // 100000 / 500 is 200; / 499 is 200.4..; / 498 is 200.8..; / 497 is 201.2..; / 501 is 199.6..
        c.due("exactly 200", x.delay(0, 800, 20), 200);
        c.due("just above 200", x.delay(0, 799, 20), 200);
        c.due("just below 201", x.delay(0, 798, 20), 200);
        c.due("just above 201", x.delay(0, 797, 20), 201);
        c.due("just below 200", x.delay(0, 801, 20), 199);
        c.due("the smallest divisor", x.delay(0, 500, 20), 500);
        c.due("the greatest divisor", x.delay(0, 1200, 20), 111);
    }

    private static void delaysRoundDownOverTheHeat(Checks c) {
        c.sentence("PATHS", "and that times (900 + heat * 5) / 1000, rounded down (the delay is multiplied first)");
        ShadowLatches x = new ShadowLatches();
        c.due("200 * 1005 / 1000 is 201", x.delay(0, 800, 21), 201);
        c.due("199 * 1005 / 1000 is 199.995", x.delay(0, 801, 21), 199);
        c.due("125 * 1195 / 1000 is 149.375", x.delay(0, 1100, 59), 149);
        c.due("200 * 1495 / 1000: the quotient alone would be 1", x.delay(0, 800, 119), 299);
        // 100000 / 498 is 200.8..: times 1.5 that would be 301.2..
        c.due("rounded down in between", x.delay(0, 798, 120), 300);
    }

    private static void rightUpToTheTime(Checks c) {
        c.sentence("PATHS", "A path is right if its delay is at most the time of a cycle");
        ShadowLatches x = new ShadowLatches();
        x.setVoltage(800);
        c.due("path(0, 1)", x.path(0, 1), 200);
        c.due("200 of 200", x.path(0, 2), 0);
        x.setVoltage(797);
        c.due("201 of 200", x.path(0, 2), 1);
        x.set(0, 201);
        c.due("201 of 201", x.path(0, 2), 0);
        x.set(1, 0);
        c.due("201 of 201, without a shadow", x.path(0, 2), 0);
        x.set(0, 200);
        c.due("201 of 200, without a shadow", x.path(0, 2), 2);
    }

    private static void lateUpToBothTogether(Checks c) {
        c.sentence("PATHS", "late if it is more than that, but at most that and the setting 1 together");
        ShadowLatches x = new ShadowLatches();
        x.setVoltage(800);
        x.set(1, 1);
        x.set(0, 200);
        c.due("200 of 200 and 1", x.path(0, 2), 0);
        x.set(0, 199);
        c.due("200 of 199 and 1", x.path(0, 2), 1);
        x.set(0, 198);
        c.due("200 of 198 and 1", x.path(0, 2), 2);
        x.set(1, 2);
        c.due("200 of 198 and 2", x.path(0, 2), 1);
        x.set(0, 50);
        x.set(1, 150);
        c.due("200 of 50 and 150", x.path(0, 2), 1);
        x.set(1, 149);
        c.due("200 of 50 and 149", x.path(0, 2), 2);
    }

    private static void lostAbove(Checks c) {
        c.sentence("PATHS", "and lost if it is more");
        ShadowLatches x = new ShadowLatches();
        x.setVoltage(800);
        x.set(0, 160);
        c.due("200 of 160 and 40", x.path(0, 2), 1);
        x.setVoltage(797);
        c.due("201 of 160 and 40", x.path(0, 2), 2);
        x.setLength(0, 400);
        x.setVoltage(500);
        c.due("2000 of 160 and 40", x.path(0, 2), 2);
    }

    private static void aNewCircuit(Checks c) {
        c.sentence("Promise 1", "Creates a circuit with one path, and a workload that does not use it.");
        ShadowLatches x = new ShadowLatches();
        c.due("paths", x.count(12), 1);
        c.due("sets", x.count(10), 1);
        c.due("sets with path 0", x.path(0, 4), 0);
        c.due("workload(0)", x.workload(0), 0);
        x.run(1);
        c.due("uses of path 0", x.path(0, 3), 0);
    }

    private static void addingLengths(Checks c) {
        c.sentence("Promise 2", "- `length`: 10 to 400");
        c.due("addPath(10)", new ShadowLatches().addPath(10), 1);
        c.due("addPath(400)", new ShadowLatches().addPath(400), 1);
        for (int length : new int[] {9, 401, 0, -1, -10, Integer.MIN_VALUE, Integer.MAX_VALUE}) {
            c.changesNothing("addPath(" + length + ")", Checks::busy, x -> x.addPath(length), Checks.BAD_VALUE);
        }
    }

    private static void addingWhenFull(Checks c) {
        c.sentence("Promise 2", "Returns its number; BAD_VALUE; FULL if there are 8.");
        ShadowLatches x = Checks.with(7, "0");
        c.due("an eighth", x.addPath(10), 7);
        c.due("a ninth", x.addPath(10), Checks.FULL);
        c.due("undo()", x.undo(), 3);
        c.due("an eighth again", x.addPath(400), 7);
        c.due("its length", x.path(7, 0), 400);
        c.changesNothing("a ninth of 10", () -> Checks.with(8, "07"), y -> y.addPath(10), Checks.FULL);
        c.changesNothing("a ninth of 400", () -> Checks.with(8, "07"), y -> y.addPath(400), Checks.FULL);
    }

    private static void settingLengthsOfPaths(Checks c) {
        c.sentence("Promise 3", "- `path`: a path");
        ShadowLatches x = Checks.with(3, "0");
        c.due("of the first", x.setLength(0, 11), 100);
        c.due("of the last", x.setLength(2, 12), 100);
        for (int path : new int[] {-1, 3, 7, 8, Integer.MIN_VALUE, Integer.MAX_VALUE}) {
            c.changesNothing("setLength(" + path + ", 10)", Checks::busy, y -> y.setLength(path, 10), Checks.UNKNOWN);
        }
    }

    private static void settingLengths(Checks c) {
        c.sentence("Promise 3", "- `length`: 10 to 400");
        ShadowLatches x = new ShadowLatches();
        c.due("setLength(0, 10)", x.setLength(0, 10), 100);
        c.due("setLength(0, 400)", x.setLength(0, 400), 10);
        c.due("path(0, 0)", x.path(0, 0), 400);
        for (int length : new int[] {9, 401, 0, -1, Integer.MIN_VALUE, Integer.MAX_VALUE}) {
            c.changesNothing("setLength(0, " + length + ")", Checks::busy, y -> y.setLength(0, length), Checks.BAD_VALUE);
        }
    }

    private static void settingTheSameLength(Checks c) {
        c.sentence("Promise 3", "NONE if it is so already.");
        c.changesNothing("setLength(1, 120)", Checks::busy, x -> x.setLength(1, 120), Checks.NONE);
        c.due("one less", Checks.busy().setLength(1, 119), 120);
        c.due("one more", Checks.busy().setLength(1, 121), 120);
    }

    private static void whatIsAskedOfAPath(Checks c) {
        c.sentence("Promise 15", "- `what`: 0 for its length");
        ShadowLatches x = Checks.with(2, "1,01,-,1");
        x.setLength(1, 140);
        x.run(5);
        int[] due = {140, 200, 0, 4, 3};
        for (int what = 0; what < due.length; what++) {
            c.due("path(1, " + what + ")", x.path(1, what), due[what]);
        }
        for (int what : new int[] {-1, 5, Integer.MIN_VALUE, Integer.MAX_VALUE}) {
            c.changesNothing("path(1, " + what + ")", Checks::busy, y -> y.path(1, what), Checks.BAD_VALUE);
        }
    }

    private static void howOftenAPathWasUsed(Checks c) {
        c.sentence("Promise 15", "3 for how often it was used so far");
        ShadowLatches x = Checks.with(8, "07");
        c.due("never", x.path(7, 3), 0);
        x.run(2000);
        c.due("the first in each cycle", x.path(0, 3), 2000);
        c.due("the last in each cycle", x.path(7, 3), 2000);
        c.due("another one never", x.path(6, 3), 0);
        x.undo();
        c.due("behind undo()", x.path(7, 3), 0);
        ShadowLatches y = new ShadowLatches();
        y.addPath(100);
        Checks.take(y, "1");
        y.run(5);
        y.undo();
        y.undo();
        y.undo();
        y.addPath(100);
        c.due("a path that was added anew", y.path(1, 3), 0);
    }

    private static void inHowManySetsAPathIs(Checks c) {
        c.sentence("Promise 15", "4 for in how many sets of the workload it is");
        ShadowLatches x = Checks.with(8, "07,07,07,07,07,07,07,07,07,07,07,07,07,07,07,0");
        c.due("in all of sixteen", x.path(0, 4), 16);
        c.due("in all but the last", x.path(7, 4), 15);
        c.due("in none", x.path(6, 4), 0);
        Checks.take(x, "7");
        c.due("in none of one, though in those that were", x.path(0, 4), 0);
        c.due("in the only one", x.path(7, 4), 1);
    }

    private static void unknownPathsAreNotTold(Checks c) {
        c.sentence("Promise 15", "- `path`: a path");
        for (int path : new int[] {-1, 3, 7, 8, Integer.MIN_VALUE, Integer.MAX_VALUE}) {
            for (int what = 0; what < 5; what++) {
                int asked = what;
                c.changesNothing("path(" + path + ", " + what + ")", Checks::busy, x -> x.path(path, asked), Checks.UNKNOWN);
            }
        }
        c.due("the last one's length", Checks.busy().path(2, 0), 60);
    }

    private static void delaysOfPaths(Checks c) {
        c.sentence("Promise 16", "- `path`: a path");
        c.due("of the first", Checks.busy().delay(0, 800, 20), 200);
        c.due("of the last", Checks.busy().delay(2, 800, 20), 120);
        for (int path : new int[] {-1, 3, 7, 8, Integer.MIN_VALUE, Integer.MAX_VALUE}) {
            c.changesNothing("delay(" + path + ", 800, 20)", Checks::busy, x -> x.delay(path, 800, 20), Checks.UNKNOWN);
        }
    }

    private static void delaysAtVoltages(Checks c) {
        c.sentence("Promise 16", "- `voltage`: 500 to 1200");
        c.due("delay(0, 500, 20)", new ShadowLatches().delay(0, 500, 20), 500);
        c.due("delay(0, 1200, 20)", new ShadowLatches().delay(0, 1200, 20), 111);
        // 300 would be a division by 0.
        for (int voltage : new int[] {499, 1201, 300, 299, 0, -1, Integer.MIN_VALUE, Integer.MAX_VALUE}) {
            c.changesNothing("delay(0, " + voltage + ", 20)", Checks::busy, x -> x.delay(0, voltage, 20), Checks.BAD_VALUE);
        }
    }

    private static void delaysAtHeats(Checks c) {
        c.sentence("Promise 16", "- `heat`: 20 to 120");
        c.due("delay(0, 500, 20)", new ShadowLatches().delay(0, 500, 20), 500);
        c.due("delay(0, 500, 120)", new ShadowLatches().delay(0, 500, 120), 750);
        for (int heat : new int[] {19, 121, 0, -1, Integer.MIN_VALUE, Integer.MAX_VALUE}) {
            c.changesNothing("delay(0, 500, " + heat + ")", Checks::busy, x -> x.delay(0, 500, heat), Checks.BAD_VALUE);
        }
    }
}
