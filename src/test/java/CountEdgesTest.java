/** Each boundary that the promise 21 names, by itself, and the 512 calls of an object. */
public final class CountEdgesTest {
    private static final String PROMISE = "Promise 21";

    public static void main(String[] args) {
        Checks c = new Checks("CountEdgesTest");
        whatIsCounted(c);
        whetherTheGovernorIsOn(c);
        energyInThousands(c);
        nothingWhileOff(c);
        setsAndPlaces(c);
        pathsThatAreLateOrLost(c);
        stepsUpThatABoundCutShort(c);
        stepsDownThatABoundCutShort(c);
        theSettings(c);
        statesAndLengths(c);
        fiveHundredAndTwelveCalls(c);
        c.end();
    }

    private static void whatIsCounted(Checks c) {
        c.sentence(PROMISE, "Returns the number; BAD_VALUE.");
        ShadowLatches x = new ShadowLatches();
        int[] due = {1000, 20, 0, 0, 0, 0, 0, 0, 0, 0, 1, 0, 1, 0, 0, 0, 0, 200, 40, 5, 100, 2, 10, 4, 0, 0};
        for (int what = 0; what < due.length; what++) {
            c.due("count(" + what + ")", x.count(what), due[what]);
        }
        for (int what : new int[] {-1, 26, 27, Integer.MIN_VALUE, Integer.MAX_VALUE}) {
            c.changesNothing("count(" + what + ")", Checks::busy, y -> y.count(what), Checks.BAD_VALUE);
        }
    }

    private static void whetherTheGovernorIsOn(Checks c) {
        c.sentence(PROMISE, "2 for whether the governor is on (1, otherwise 0)");
        ShadowLatches x = new ShadowLatches();
        c.due("off", x.count(2), 0);
        x.govern(true);
        c.due("on", x.count(2), 1);
        x.govern(false);
        c.due("off again", x.count(2), 0);
    }

    private static void energyInThousands(Checks c) {
        c.sentence(PROMISE, "7 for the energy spent so far, divided by 1000, rounded down");
        ShadowLatches x = new ShadowLatches();
        x.run(9);
        c.due("of 900", x.count(7), 0);
        x.setVoltage(999);
        x.run(1);
        c.due("of 999", x.count(7), 0);
        x.undo();
        x.setVoltage(1000);
        c.due("of 900 again", x.count(7), 0);
        x.run(1);
        c.due("of 1000", x.count(7), 1);
        x.run(9);
        c.due("of 1900", x.count(7), 1);
        x.run(1);
        c.due("of 2000", x.count(7), 2);
    }

    private static void nothingWhileOff(Checks c) {
        c.sentence(PROMISE, "(8, 9: 0 if it is off)");
        ShadowLatches x = Checks.late();
        x.run(7);
        c.due("cycles while off", x.count(8), 0);
        c.due("complaints while off", x.count(9), 0);
        x.govern(true);
        x.run(7);
        c.due("cycles while on", x.count(8), 42);
        c.due("complaints while on", x.count(9), 7);
        x.govern(false);
        c.due("cycles when off again", x.count(8), 0);
        c.due("complaints when off again", x.count(9), 0);
        x.run(1);
        c.due("cycles while off again", x.count(8), 0);
        c.due("complaints while off again", x.count(9), 0);
        x.undo();
        x.undo();
        c.due("cycles when that is undone", x.count(8), 42);
        c.due("complaints when that is undone", x.count(9), 7);
    }

    private static void setsAndPlaces(Checks c) {
        c.sentence(PROMISE, "10 for the sets of the workload, 11 for the place of the set at hand");
        ShadowLatches x = new ShadowLatches();
        c.due("one set", x.count(10), 1);
        x.run(1);
        c.due("its place", x.count(11), 0);
        x.layWorkload(16, 1);
        c.due("sixteen sets", x.count(10), 16);
        x.run(15);
        c.due("the last place", x.count(11), 15);
        x.run(1);
        c.due("the first place", x.count(11), 0);
    }

    private static void pathsThatAreLateOrLost(Checks c) {
        c.sentence(PROMISE, "13 for paths that are late now (a set), 14 for those that are lost now (a set)");
        ShadowLatches x = Checks.with(8, "-");
        x.set(0, 142);
        c.due("none late", x.count(13), 0);
        c.due("none lost", x.count(14), 0);
        x.set(0, 141);
        c.due("all late", x.count(13), 255);
        c.due("none lost", x.count(14), 0);
        x.set(1, 0);
        c.due("none late", x.count(13), 0);
        c.due("all lost", x.count(14), 255);
        x.set(1, 1);
        x.setLength(0, 10);
        x.setLength(7, 400);
        c.due("all late but the first and the last", x.count(13), 126);
        c.due("the last lost", x.count(14), 128);
    }

    private static void stepsUpThatABoundCutShort(Checks c) {
        c.sentence(PROMISE, "15 for steps of the governor up so far (each step, also one that a bound cut short)");
        int[] before = {1160, 1161, 1195, 1200};
        for (int voltage : before) {
            ShadowLatches x = Checks.late();
            x.set(2, 1);
            x.set(3, 10);
            x.set(4, 1);
            x.setVoltage(voltage);
            x.govern(true);
            x.run(5);
            c.due("the voltage from " + voltage, x.count(0), 1200);
            c.due("steps up", x.count(15), 4);
            x.run(5);
            c.due("the voltage", x.count(0), 1200);
            c.due("steps up at 1200", x.count(15), 8);
            c.due("steps down", x.count(16), 0);
        }
    }

    private static void stepsDownThatABoundCutShort(Checks c) {
        c.sentence(PROMISE, "16 for those down (likewise)");
        for (int voltage : new int[] {510, 509, 501, 500}) {
            ShadowLatches x = new ShadowLatches();
            x.set(3, 10);
            x.setVoltage(voltage);
            x.govern(true);
            x.run(10);
            c.due("the voltage from " + voltage, x.count(0), 500);
            c.due("steps down", x.count(16), 1);
            x.run(10);
            c.due("the voltage", x.count(0), 500);
            c.due("steps down at 500", x.count(16), 2);
            c.due("steps up", x.count(15), 0);
        }
    }

    private static void theSettings(Checks c) {
        c.sentence(PROMISE, "17 to 23 for the settings 0 to 6");
        ShadowLatches x = new ShadowLatches();
        int[] values = {51, 52, 13, 54, 55, 16, 7};
        for (int which = 0; which < 7; which++) {
            x.set(which, values[which]);
        }
        for (int which = 0; which < 7; which++) {
            c.due("count(" + (17 + which) + ")", x.count(17 + which), values[which]);
        }
        c.due("the one before is the steps down", x.count(16), 0);
        c.due("the one behind is the states", x.count(24), 4);
    }

    private static void statesAndLengths(Checks c) {
        c.sentence(PROMISE, "24 for the states in the history, 25 for the length of the text");
        ShadowLatches x = new ShadowLatches();
        c.due("no state", x.count(24), 0);
        c.due("no character", x.count(25), 0);
        for (int i = 1; i <= 61; i++) {
            x.type('-');
            x.setVoltage(1000 - i);
            c.due("states", x.count(24), Math.min(4, i));
            c.due("characters", x.count(25), Math.min(60, i));
        }
    }

    private static void fiveHundredAndTwelveCalls(Checks c) {
        c.sentence("What it is", "An object is used for at most 512 calls after it has been made");
        // The most that can be spent: each call but the first ones and the last runs 2000 late cycles at 1200.
        int ahead = 6;
        long runs = Checks.MOST_CALLS - ahead - 1;
        int[] whats = {3, 4, 5, 7};
        long[] due = {runs * 2000 * 21, runs * 2000, runs * 2000, runs * 2000 * 21 * 144 / 1000};
        for (int i = 0; i < whats.length; i++) {
            ShadowLatches x = new ShadowLatches();
            x.type('0');
            x.takeWorkload();
            x.set(0, 50);
            x.set(1, 200);
            x.set(2, 20);
            x.setVoltage(1200);
            for (int run = 0; run < runs; run++) {
                x.run(2000);
            }
            c.due("the last call, count(" + whats[i] + ")", x.count(whats[i]), due[i]);
        }
    }
}
