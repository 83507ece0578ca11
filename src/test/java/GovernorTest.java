/** Promise 7, and what promises 9 and 21 tell of the governor. */
public final class GovernorTest {
    public static void main(String[] args) {
        Checks c = new Checks("GovernorTest");
        itIsTurnedOnAndOff(c);
        itStepsDownWithoutComplaints(c);
        itStaysAtTheAim(c);
        itStepsUpByTheExcess(c);
        itLooksBehindWholeReplays(c);
        itNeverStepsDownWithTheAimZero(c);
        itKeepsToTheBounds(c);
        itBeginsAnewWhenTurnedOn(c);
        aSmallerWindowIsSeenBehindTheNextCycle(c);
        c.end();
    }

    /** Each cycle is late and spends so many cycles as told (with its replay). */
    private static ShadowLatches complaining(int cyclesEach) {
        ShadowLatches x = Checks.with(1, "0");
        x.set(0, 50);
        x.set(1, 200);
        x.set(2, cyclesEach - 1);
        x.set(3, 10);
        x.govern(true);
        return x;
    }

    private static void itIsTurnedOnAndOff(Checks c) {
        ShadowLatches x = new ShadowLatches();
        x.setVoltage(900);
        long[] before = Checks.everything(x);
        c.due("govern(false) when off", x.govern(false), Checks.NONE);
        c.unchanged("govern(false) when off", before, x);
        c.due("govern(true)", x.govern(true), 900);
        c.due("count(2)", x.count(2), 1);
        before = Checks.everything(x);
        c.due("govern(true) when on", x.govern(true), Checks.NONE);
        c.unchanged("govern(true) when on", before, x);
        c.due("govern(false)", x.govern(false), 900);
        c.due("count(2) then", x.count(2), 0);
        c.due("count(24)", x.count(24), 3);
        x.run(200);
        c.due("off, it does nothing", x.count(0), 900);
        c.due("nor counts", x.count(16), 0);
        x.undo();
        c.due("undo()", x.undo(), 2);
        c.due("count(2) behind undo()", x.count(2), 1);
    }

    private static void itStepsDownWithoutComplaints(Checks c) {
        ShadowLatches x = new ShadowLatches();
        x.govern(true);
        x.set(4, 1);
        x.set(5, 7);
        c.due("run(99)", x.run(99), 0);
        c.due("voltage before", x.count(0), 1000);
        c.due("window cycles", x.count(8), 99);
        x.run(1);
        c.due("voltage behind the window", x.count(0), 993);
        c.due("window cycles anew", x.count(8), 0);
        c.due("steps down", x.count(16), 1);
        c.due("steps up", x.count(15), 0);
        x.run(250);
        c.due("two windows more", x.count(0), 979);
        c.due("steps down then", x.count(16), 3);
        c.due("window cycles then", x.count(8), 50);
        // 100 cycles of 100, 100 of 98 (993: 98.6..), 100 of 97 (986: 97.2..), 50 of 95 (979: 95.8..)
        c.due("energy by the voltage of its time", x.count(7), (10000 + 9800 + 9700 + 4750) / 1000);
    }

    private static void itStaysAtTheAim(Checks c) {
        ShadowLatches x = complaining(2);
        x.set(4, 5);
        c.due("run(4)", x.run(4), 4);
        c.due("window complaints", x.count(9), 4);
        c.due("window cycles", x.count(8), 8);
        c.due("run(1)", x.run(1), 1);
        c.due("five are aimed at", x.count(0), 1000);
        c.due("window complaints anew", x.count(9), 0);
        c.due("no step up", x.count(15), 0);
        c.due("no step down", x.count(16), 0);
        x.set(4, 6);
        x.run(5);
        c.due("one less than the aim", x.count(0), 990);
        c.due("is one step down", x.count(16), 1);
        x.set(4, 100);
        x.run(5);
        c.due("many less", x.count(0), 980);
        c.due("is one step down, too", x.count(16), 2);
    }

    private static void itStepsUpByTheExcess(Checks c) {
        ShadowLatches x = complaining(2);
        x.set(4, 4);
        x.run(5);
        c.due("one more than the aim", x.count(0), 1010);
        c.due("is one step", x.count(15), 1);
        x.set(4, 2);
        x.set(5, 3);
        x.run(5);
        c.due("three more", x.count(0), 1019);
        c.due("are three steps", x.count(15), 4);
        x.set(6, 2);
        x.run(5);
        c.due("at most two at once", x.count(0), 1025);
        c.due("count as two", x.count(15), 6);
        c.due("none is down", x.count(16), 0);
    }

    private static void itLooksBehindWholeReplays(Checks c) {
        ShadowLatches x = complaining(3);
        x.set(4, 1);
        x.run(3);
        c.due("nine cycles", x.count(8), 9);
        x.run(1);
        c.due("twelve: the window was over in the replay", x.count(8), 0);
        c.due("with four complaints", x.count(0), 1030);
        ShadowLatches y = complaining(21);
        y.set(4, 0);
        y.run(1);
        c.due("two windows' time in one replay", y.count(3), 21);
        c.due("is looked at once", y.count(15), 1);
        c.due("voltage", y.count(0), 1010);
        y.run(2);
        c.due("once behind each cycle", y.count(15), 3);
        // In the replay the voltage is still the old one: 21 * 100, 21 * 102, 21 * 104
        c.due("energy", y.count(7), 21 * (100 + 102 + 104) / 1000);
    }

    private static void itNeverStepsDownWithTheAimZero(Checks c) {
        ShadowLatches x = new ShadowLatches();
        x.govern(true);
        x.set(4, 0);
        x.run(2000);
        c.due("voltage", x.count(0), 1000);
        c.due("steps down", x.count(16), 0);
        c.due("steps up", x.count(15), 0);
    }

    private static void itKeepsToTheBounds(Checks c) {
        ShadowLatches x = complaining(2);
        x.setVoltage(1195);
        x.run(5);
        c.due("up to 1200", x.count(0), 1200);
        c.due("three steps, though cut short", x.count(15), 3);
        x.run(5);
        c.due("at 1200", x.count(0), 1200);
        c.due("steps are counted", x.count(15), 6);
        ShadowLatches y = new ShadowLatches();
        y.govern(true);
        y.setVoltage(505);
        y.run(100);
        c.due("down to 500", y.count(0), 500);
        c.due("a step, though cut short", y.count(16), 1);
        y.run(100);
        c.due("at 500", y.count(0), 500);
        c.due("the step is counted", y.count(16), 2);
    }

    private static void itBeginsAnewWhenTurnedOn(Checks c) {
        ShadowLatches x = complaining(2);
        x.run(3);
        c.due("window cycles", x.count(8), 6);
        c.due("window complaints", x.count(9), 3);
        x.govern(false);
        c.due("window cycles when off", x.count(8), 0);
        c.due("window complaints when off", x.count(9), 0);
        x.run(3);
        c.due("window cycles stay 0 when off", x.count(8), 0);
        c.due("window complaints stay 0 when off", x.count(9), 0);
        x.govern(true);
        c.due("window cycles when on again", x.count(8), 0);
        c.due("window complaints when on again", x.count(9), 0);
        x.run(4);
        c.due("no whole window yet", x.count(0), 1000);
        x.run(1);
        c.due("a whole one", x.count(0), 1030);
    }

    private static void aSmallerWindowIsSeenBehindTheNextCycle(Checks c) {
        ShadowLatches x = new ShadowLatches();
        x.govern(true);
        x.run(50);
        x.set(3, 20);
        c.due("setting it looks at nothing", x.count(0), 1000);
        c.due("nor begins anew", x.count(8), 50);
        x.run(1);
        c.due("behind the next cycle it looks", x.count(0), 990);
        c.due("once", x.count(16), 1);
        c.due("and begins anew", x.count(8), 0);
    }
}
