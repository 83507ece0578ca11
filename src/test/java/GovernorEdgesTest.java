/** Each boundary that the section THE GOVERNOR names, by itself. */
public final class GovernorEdgesTest {
    private static final String SECTION = "THE GOVERNOR";

    public static void main(String[] args) {
        Checks c = new Checks("GovernorEdgesTest");
        offAtFirst(c);
        asSoonAsTheWindowIsOver(c);
        orWasTurnedOn(c);
        behindAWholeCycle(c);
        lessByOneStep(c);
        atLeast500(c);
        itStays(c);
        greaterByTheExcess(c);
        atMostTheSettingOfThem(c);
        atMost1200(c);
        bothCountsBeginAnew(c);
        withSAsZero(c);
        c.end();
    }

    /** Five late cycles of two spent ones each fill a window of ten. */
    private static ShadowLatches fiveComplaints(int aim) {
        ShadowLatches x = Checks.late();
        x.set(2, 1);
        x.set(3, 10);
        x.set(4, aim);
        x.govern(true);
        return x;
    }

    /** No path is used; the window of ten cycles has no complaint. */
    private static ShadowLatches noComplaints() {
        ShadowLatches x = new ShadowLatches();
        x.set(3, 10);
        x.govern(true);
        return x;
    }

    private static void offAtFirst(Checks c) {
        c.sentence(SECTION, "If the governor is on (off at first)");
        ShadowLatches x = new ShadowLatches();
        c.due("count(2)", x.count(2), 0);
        x.run(2000);
        c.due("the voltage", x.count(0), 1000);
        c.due("govern(false)", x.govern(false), Checks.NONE);
    }

    private static void asSoonAsTheWindowIsOver(Checks c) {
        c.sentence(SECTION, "as soon as so many cycles as the setting 3 tells have been spent since it looked last");
        ShadowLatches x = noComplaints();
        int[] voltages = {1000, 990, 990, 980};
        int[] cycles = {9, 1, 9, 1};
        for (int i = 0; i < cycles.length; i++) {
            x.run(cycles[i]);
            c.due("behind " + x.count(3) + " cycles", x.count(0), voltages[i]);
            c.due("since it looked", x.count(8), cycles[i] % 10 == 9 ? 9 : 0);
        }
        x.set(3, 11);
        x.run(10);
        c.due("ten of eleven", x.count(0), 980);
        x.run(1);
        c.due("eleven of eleven", x.count(0), 970);
    }

    private static void orWasTurnedOn(Checks c) {
        c.sentence(SECTION, "(or was turned on)");
        ShadowLatches x = new ShadowLatches();
        x.set(3, 10);
        x.run(7);
        x.govern(true);
        x.run(9);
        c.due("nine since it was turned on", x.count(0), 1000);
        x.govern(false);
        x.govern(true);
        x.run(9);
        c.due("nine since it was turned on again", x.count(0), 1000);
        x.run(1);
        c.due("ten", x.count(0), 990);
        ShadowLatches y = fiveComplaints(0);
        y.set(6, 10);
        y.run(4);
        y.govern(false);
        y.govern(true);
        y.run(5);
        c.due("the complaints since then alone", y.count(15), 5);
    }

    private static void behindAWholeCycle(Checks c) {
        c.sentence(SECTION, "behind a whole cycle with its replay");
        // The tenth cycle is late: its window is over ahead of its replay, but is looked at behind it.
        ShadowLatches x = fiveComplaints(0);
        x.set(2, 20);
        Checks.take(x, "-,-,-,-,-,-,-,-,-,0");
        x.run(9);
        c.due("nine", x.count(8), 9);
        x.run(1);
        c.due("cycles", x.count(3), 30);
        c.due("none are left over", x.count(8), 0);
        c.due("its complaint is in the window", x.count(15), 1);
        c.due("it looked once", x.count(0), 1010);
        x.run(9);
        c.due("nine more are no window", x.count(0), 1010);
        ShadowLatches y = fiveComplaints(0);
        y.set(2, 20);
        y.set(5, 50);
        y.run(3);
        c.due("it looked thrice in 63 cycles", y.count(0), 1150);
        c.due("each replay is at the voltage before", y.count(7), 21 * (100 + 110 + 121) / 1000);
    }

    private static void lessByOneStep(Checks c) {
        c.sentence(SECTION, "if c is less than s, the voltage becomes less by one step");
        for (int aim : new int[] {6, 7, 100}) {
            ShadowLatches x = fiveComplaints(aim);
            x.run(5);
            c.due("five of " + aim, x.count(0), 990);
            c.due("steps down", x.count(16), 1);
            c.due("steps up", x.count(15), 0);
        }
        ShadowLatches x = noComplaints();
        x.set(4, 1);
        x.run(10);
        c.due("none of one", x.count(0), 990);
    }

    private static void atLeast500(Checks c) {
        c.sentence(SECTION, "(at least 500)");
        int[] before = {511, 510, 509, 501, 500};
        int[] behind = {501, 500, 500, 500, 500};
        for (int i = 0; i < before.length; i++) {
            ShadowLatches x = noComplaints();
            x.setVoltage(before[i]);
            x.run(10);
            c.due("a step of 10 down from " + before[i], x.count(0), behind[i]);
            c.due("steps down", x.count(16), 1);
        }
        ShadowLatches x = noComplaints();
        x.set(5, 50);
        x.setVoltage(549);
        x.run(10);
        c.due("a step of 50 down from 549", x.count(0), 500);
    }

    private static void itStays(Checks c) {
        c.sentence(SECTION, "if it is s, it stays");
        ShadowLatches x = fiveComplaints(5);
        x.run(5);
        c.due("five of five", x.count(0), 1000);
        c.due("steps up", x.count(15), 0);
        c.due("steps down", x.count(16), 0);
        c.due("it looked", x.count(8), 0);
        x.set(4, 4);
        x.run(5);
        c.due("five of four", x.count(0), 1010);
        x.set(4, 6);
        x.run(5);
        c.due("five of six", x.count(0), 1000);
    }

    private static void greaterByTheExcess(Checks c) {
        c.sentence(SECTION, "if it is more, it becomes greater by c - s steps");
        for (int excess = 1; excess <= 4; excess++) {
            ShadowLatches x = fiveComplaints(5 - excess);
            x.run(5);
            c.due(excess + " too many", x.count(0), 1000 + 10 * excess);
            c.due("steps up", x.count(15), excess);
            c.due("steps down", x.count(16), 0);
        }
    }

    private static void atMostTheSettingOfThem(Checks c) {
        c.sentence(SECTION, "but at most by the setting 6 of them");
        int[] most = {1, 4, 5, 6, 10};
        int[] steps = {1, 4, 5, 5, 5};
        for (int i = 0; i < most.length; i++) {
            ShadowLatches x = fiveComplaints(0);
            x.set(6, most[i]);
            x.run(5);
            c.due("five too many of at most " + most[i], x.count(0), 1000 + 10 * steps[i]);
            c.due("steps up", x.count(15), steps[i]);
        }
    }

    private static void atMost1200(Checks c) {
        c.sentence(SECTION, "(at most 1200)");
        int[] before = {1189, 1190, 1191, 1199, 1200};
        int[] behind = {1199, 1200, 1200, 1200, 1200};
        for (int i = 0; i < before.length; i++) {
            ShadowLatches x = fiveComplaints(4);
            x.setVoltage(before[i]);
            x.run(5);
            c.due("a step of 10 up from " + before[i], x.count(0), behind[i]);
            c.due("steps up", x.count(15), 1);
        }
        ShadowLatches x = fiveComplaints(1);
        x.set(5, 50);
        x.run(5);
        c.due("four steps of 50 up from 1000", x.count(0), 1200);
        x.setVoltage(1001);
        x.run(5);
        c.due("four steps of 50 up from 1001", x.count(0), 1200);
    }

    private static void bothCountsBeginAnew(Checks c) {
        c.sentence(SECTION, "Then both counts begin anew.");
        for (int aim : new int[] {6, 5, 4}) {
            ShadowLatches x = fiveComplaints(aim);
            x.run(4);
            c.due("cycles", x.count(8), 8);
            c.due("complaints", x.count(9), 4);
            x.run(1);
            c.due("cycles behind the look with the aim " + aim, x.count(8), 0);
            c.due("complaints behind it", x.count(9), 0);
            x.run(1);
            c.due("cycles of the next window", x.count(8), 2);
            c.due("complaints of the next window", x.count(9), 1);
        }
    }

    private static void withSAsZero(Checks c) {
        c.sentence(SECTION, "(With s as 0 it never becomes less.)");
        ShadowLatches x = noComplaints();
        x.set(4, 0);
        x.run(2000);
        c.due("without complaints", x.count(0), 1000);
        c.due("steps down", x.count(16), 0);
        ShadowLatches y = fiveComplaints(0);
        y.run(5);
        c.due("with five", y.count(0), 1040);
        c.due("steps down", y.count(16), 0);
    }
}
