/** Each boundary that the list of the settings and the promises 6, 7 and 8 name, by itself. */
public final class SettingsEdgesTest {
    public static void main(String[] args) {
        Checks c = new Checks("SettingsEdgesTest");
        theTimeOfACycle(c);
        howMuchLaterAShadowLooks(c);
        theCyclesOfAReplay(c);
        theCyclesOfAWindow(c);
        theComplaintsThatAreAimedAt(c);
        aStepOfTheVoltage(c);
        theMostStepsUp(c);
        sevenSettings(c);
        eachInItsOwnRange(c);
        settingTheSame(c);
        settingTheVoltage(c);
        settingTheSameVoltage(c);
        turningTheGovernor(c);
        c.end();
    }

    private static void range(Checks c, int which, int least, int most, int first) {
        ShadowLatches x = new ShadowLatches();
        c.due("the first value", x.count(17 + which), first);
        c.due("the least", x.set(which, least), first);
        c.due("it is taken", x.count(17 + which), least);
        c.due("the most", x.set(which, most), least);
        c.due("it is taken", x.count(17 + which), most);
        for (int value : new int[] {least - 1, most + 1, Integer.MIN_VALUE, Integer.MAX_VALUE}) {
            c.changesNothing("set(" + which + ", " + value + ")", Checks::busy, y -> y.set(which, value), Checks.BAD_VALUE);
        }
    }

    private static void theTimeOfACycle(Checks c) {
        c.sentence("PATHS", "0 the time of a cycle (50 to 1000; 200)");
        range(c, 0, 50, 1000, 200);
        ShadowLatches x = new ShadowLatches();
        x.set(1, 0);
        x.setLength(0, 10);
        x.setVoltage(500);
        x.set(0, 50);
        c.due("a delay of 50 with the least", x.path(0, 2), 0);
        x.setLength(0, 200);
        x.set(0, 1000);
        c.due("a delay of 1000 with the most", x.path(0, 2), 0);
        x.setLength(0, 201);
        c.due("a delay of 1005 with the most", x.path(0, 2), 2);
    }

    private static void howMuchLaterAShadowLooks(Checks c) {
        c.sentence("PATHS", "1 how much later a shadow looks (0 to 200; 40)");
        range(c, 1, 0, 200, 40);
        ShadowLatches x = new ShadowLatches();
        x.setVoltage(500);
        x.set(0, 299);
        x.set(1, 200);
        c.due("a delay of 500 with 299 and the most", x.path(0, 2), 2);
        x.set(0, 300);
        c.due("a delay of 500 with 300 and the most", x.path(0, 2), 1);
        x.set(0, 499);
        x.set(1, 0);
        c.due("a delay of 500 with 499 and the least", x.path(0, 2), 2);
    }

    private static void theCyclesOfAReplay(Checks c) {
        c.sentence("PATHS", "2 the cycles of a replay (1 to 20; 5)");
        range(c, 2, 1, 20, 5);
        ShadowLatches x = Checks.late();
        x.run(1);
        c.due("one late cycle at first", x.count(3), 6);
        x.set(2, 1);
        x.run(1);
        c.due("one more with the least", x.count(3), 6 + 2);
        x.set(2, 20);
        x.run(1);
        c.due("one more with the most", x.count(3), 8 + 21);
    }

    private static void theCyclesOfAWindow(Checks c) {
        c.sentence("PATHS", "3 the cycles of a window (10 to 500; 100)");
        range(c, 3, 10, 500, 100);
        for (int window : new int[] {10, 100, 500}) {
            ShadowLatches x = new ShadowLatches();
            x.set(3, window);
            x.govern(true);
            x.run(window - 1);
            c.due("a cycle less than the window " + window, x.count(0), 1000);
            x.run(1);
            c.due("the whole window " + window, x.count(0), 990);
        }
    }

    private static void theComplaintsThatAreAimedAt(Checks c) {
        c.sentence("PATHS", "4 the complaints of a window at which the voltage stays (0 to 100; 2)");
        range(c, 4, 0, 100, 2);
        for (int complaints : new int[] {0, 2, 100}) {
            ShadowLatches x = complaints == 0 ? Checks.with(1, "-") : Checks.late();
            x.set(2, 1);
            x.set(3, complaints == 0 ? 10 : Math.max(10, 2 * complaints));
            x.set(4, complaints);
            x.govern(true);
            x.run(complaints);
            Checks.take(x, "-");
            x.run(10);
            c.due("a window with " + complaints, x.count(0), 1000);
            c.due("no step up", x.count(15), 0);
            c.due("no step down", x.count(16), 0);
        }
    }

    private static void aStepOfTheVoltage(Checks c) {
        c.sentence("PATHS", "5 a step of the voltage (1 to 50; 10)");
        range(c, 5, 1, 50, 10);
        int[] steps = {10, 1, 50};
        int[] voltages = {990, 989, 939};
        ShadowLatches x = new ShadowLatches();
        x.govern(true);
        for (int i = 0; i < steps.length; i++) {
            x.set(5, steps[i]);
            x.run(100);
            c.due("a step of " + steps[i], x.count(0), voltages[i]);
        }
    }

    private static void theMostStepsUp(Checks c) {
        c.sentence("PATHS", "6 the most steps up at once (1 to 10; 4)");
        range(c, 6, 1, 10, 4);
        int[] most = {4, 1, 10};
        int[] voltages = {1040, 1050, 1150};
        ShadowLatches x = Checks.late();
        x.set(2, 1);
        x.set(4, 0);
        x.govern(true);
        for (int i = 0; i < most.length; i++) {
            x.set(6, most[i]);
            c.due("complaints of a window", x.run(50), 50);
            c.due("at most " + most[i] + " steps", x.count(0), voltages[i]);
        }
    }

    private static void sevenSettings(Checks c) {
        c.sentence("Promise 8", "- `which`: 0 to 6");
        c.due("set(0, 50)", new ShadowLatches().set(0, 50), 200);
        c.due("set(6, 10)", new ShadowLatches().set(6, 10), 4);
        for (int which : new int[] {-1, 7, 8, 17, Integer.MIN_VALUE, Integer.MAX_VALUE}) {
            c.changesNothing("set(" + which + ", 10)", Checks::busy, x -> x.set(which, 10), Checks.BAD_VALUE);
        }
    }

    private static void eachInItsOwnRange(Checks c) {
        c.sentence("Promise 8", "- `value`: in its range");
        int[] least = {50, 0, 1, 10, 0, 1, 1};
        int[] most = {1000, 200, 20, 500, 100, 50, 10};
        // Each bound of one setting is asked of all others, too.
        for (int which = 0; which < 7; which++) {
            for (int other = 0; other < 7; other++) {
                for (int value : new int[] {least[other], least[other] - 1, most[other], most[other] + 1}) {
                    ShadowLatches x = new ShadowLatches();
                    int before = x.count(17 + which);
                    boolean taken = value >= least[which] && value <= most[which];
                    int due = !taken ? Checks.BAD_VALUE : value == before ? Checks.NONE : before;
                    c.due("set(" + which + ", " + value + ")", x.set(which, value), due);
                    c.due("the setting then", x.count(17 + which), taken ? value : before);
                    c.due("the states then", x.count(24), due < 0 ? 0 : 1);
                }
            }
        }
    }

    private static void settingTheSame(Checks c) {
        c.sentence("Promise 8", "Returns the previous one; BAD_VALUE (which or value); NONE if it is so already.");
        for (int which = 0; which < 7; which++) {
            int asked = which;
            int value = Checks.busy().count(17 + which);
            c.changesNothing("the same", Checks::busy, x -> x.set(asked, value), Checks.NONE);
            c.due("one more", Checks.busy().set(which, value + 1), value);
            c.due("one less", Checks.busy().set(which, value - 1), value);
        }
    }

    private static void settingTheVoltage(Checks c) {
        c.sentence("Promise 6", "- `voltage`: 500 to 1200");
        c.due("setVoltage(500)", Checks.busy().setVoltage(500), 940);
        c.due("setVoltage(1200)", Checks.busy().setVoltage(1200), 940);
        for (int voltage : new int[] {499, 1201, 0, -1, Integer.MIN_VALUE, Integer.MAX_VALUE}) {
            c.changesNothing("setVoltage(" + voltage + ")", Checks::busy, x -> x.setVoltage(voltage), Checks.BAD_VALUE);
        }
    }

    private static void settingTheSameVoltage(Checks c) {
        c.sentence("Promise 6", "NONE if it is so already.");
        c.changesNothing("setVoltage(940)", Checks::busy, x -> x.setVoltage(940), Checks.NONE);
        c.due("one less", Checks.busy().setVoltage(939), 940);
        c.due("one more", Checks.busy().setVoltage(941), 940);
        ShadowLatches x = new ShadowLatches();
        x.setVoltage(500);
        c.due("the least again", x.setVoltage(500), Checks.NONE);
        x.setVoltage(1200);
        c.due("the most again", x.setVoltage(1200), Checks.NONE);
    }

    private static void turningTheGovernor(Checks c) {
        c.sentence("Promise 7", "Returns the voltage; NONE if it is so already.");
        c.changesNothing("govern(true) when on", Checks::busy, x -> x.govern(true), Checks.NONE);
        c.changesNothing("govern(false) when off", Checks::late, x -> x.govern(false), Checks.NONE);
        ShadowLatches x = new ShadowLatches();
        c.due("govern(false) at first", x.govern(false), Checks.NONE);
        c.due("govern(true)", x.govern(true), 1000);
        c.due("govern(true) again", x.govern(true), Checks.NONE);
        c.due("govern(false)", x.govern(false), 1000);
        c.due("govern(false) again", x.govern(false), Checks.NONE);
    }
}
