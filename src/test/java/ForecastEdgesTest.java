/** Each boundary that the promises 18, 19 and 20 name, by itself. */
public final class ForecastEdgesTest {
    private static final String SIXTEEN = "0,-,-,-,-,-,-,-,-,-,-,-,-,-,-,-";

    public static void main(String[] args) {
        Checks c = new Checks("ForecastEdgesTest");
        leastWithNoneLate(c);
        leastWithNoneLost(c);
        leastOfTheUsedPaths(c);
        leastWithTheHeatOfNow(c);
        leastIsAVoltage(c);
        noLeast(c);
        wouldFromNowOn(c);
        wouldWithTheGovernorOff(c);
        wouldAtVoltages(c);
        wouldForCycles(c);
        wouldTellWhat(c);
        bestInStepsOf50(c);
        bestWithoutALostOne(c);
        bestOfSeveralTheLeast(c);
        bestWithTheGovernorOff(c);
        bestForCycles(c);
        noBest(c);
        c.end();
    }

    private static ShadowLatches onePath(int length, int time, int shadow) {
        ShadowLatches x = Checks.with(1, "0");
        x.setLength(0, length);
        x.set(0, time);
        x.set(1, shadow);
        return x;
    }

    private static void leastWithNoneLate(Checks c) {
        c.sentence("Promise 18", "the least voltage with which no path that the workload uses is late");
        // 100000 / 500 is 200 and 100000 / 498 is 200.8.., but 100000 / 497 is 201.2..
        c.due("of 200", onePath(100, 200, 40).least(false), 798);
        c.due("of 201", onePath(100, 201, 40).least(false), 100000 / 202 + 1 + 300);
        c.due("of 200 with the greatest shadow", onePath(100, 200, 200).least(false), 798);
        c.due("of 200 without a shadow (or lost)", onePath(100, 200, 0).least(false), 798);
    }

    private static void leastWithNoneLost(Checks c) {
        c.sentence("Promise 18", "or none is lost");
        c.due("of 160 and 40", onePath(100, 160, 40).least(true), 798);
        c.due("of 160 and 39", onePath(100, 160, 39).least(true), 801);
        c.due("of 160 and 41", onePath(100, 160, 41).least(true), 100000 / 202 + 1 + 300);
        c.due("of 200 without a shadow", onePath(100, 200, 0).least(true), 798);
    }

    private static void leastOfTheUsedPaths(Checks c) {
        c.sentence("Promise 18", "no path that the workload uses");
        ShadowLatches x = Checks.with(8, "-,-,-,-,-,-,-,-,-,-,-,-,-,-,-,7");
        for (int path = 0; path < 7; path++) {
            x.setLength(path, 400);
        }
        c.due("the last path in the last set alone", x.least(false), 798);
        Checks.take(x, "0,-,-,-,-,-,-,-,-,-,-,-,-,-,-,7");
        c.due("with a longer one in the first set", x.least(false), Checks.NONE);
        x.setLength(0, 10);
        c.due("with a shorter one in the first set", x.least(false), 798);
        Checks.take(x, "7,7");
        c.due("of a path in two sets", x.least(false), 798);
        Checks.take(x, "-");
        c.due("of no path, none late", x.least(false), 500);
        c.due("of no path, none lost", x.least(true), 500);
    }

    private static void leastWithTheHeatOfNow(Checks c) {
        c.sentence("Promise 18", "with the heat of now");
        ShadowLatches x = onePath(100, 200, 40);
        x.run(3);
        c.due("at 20 degrees", x.least(false), 798);
        x.run(1);
        c.due("heat", x.count(1), 21);
        // 200 * 1005 / 1000 is 201: at most 199 (199.995), and 100000 / 501 is 199.6..
        c.due("at 21 degrees", x.least(false), 801);
        c.due("whatever the voltage is", x.setVoltage(500), 1000);
        c.due("at 21 degrees", x.least(false), 801);
    }

    private static void leastIsAVoltage(Checks c) {
        c.sentence("Promise 18", "Returns the voltage");
        c.due("500 is enough", onePath(100, 500, 0).least(false), 500);
        c.due("500 is not enough", onePath(100, 499, 0).least(false), 501);
        // 395000 / 900 is 438.8.., and 395000 / 899 is 439.3..
        c.due("1200 is enough, 1199 is not", onePath(395, 438, 0).least(false), 1200);
        c.due("with a shadow", onePath(395, 437, 1).least(true), 1200);
    }

    private static void noLeast(Checks c) {
        c.sentence("Promise 18", "NONE if there is none up to 1200");
        c.due("1201 would be enough", onePath(395, 437, 200).least(false), Checks.NONE);
        c.due("438 is not", onePath(395, 437, 0).least(true), Checks.NONE);
        c.changesNothing("least(false)", Checks::lost, x -> x.least(false), Checks.NONE);
        c.changesNothing("least(true)", Checks::lost, x -> x.least(true), Checks.NONE);
        c.changesNothing("least(false) alone", Checks::late, x -> x.least(false), Checks.NONE);
    }

    private static void wouldFromNowOn(Checks c) {
        c.sentence("Promise 19", "from now on (the set at hand, the heat and the cycles spent so far as they are)");
        ShadowLatches x = Checks.with(1, SIXTEEN);
        x.set(0, 50);
        x.set(1, 200);
        x.run(15);
        c.due("cycles so far", x.count(3), 20);
        c.due("the last set", x.would(1000, 1, 0), 0);
        c.due("the first one comes round", x.would(1000, 2, 0), 1);
        c.due("and not again in sixteen", x.would(1000, 17, 0), 1);
        c.due("but in the next", x.would(1000, 18, 0), 2);
        ShadowLatches y = Checks.with(1, "0");
        y.run(3);
        c.due("the fourth cycle heats", y.would(1000, 1, 4), 21);
        y.run(1);
        c.due("the fifth to the seventh do not", y.would(1000, 3, 4), 21);
        c.due("the eighth does", y.would(1000, 4, 4), 22);
        y.set(0, 142);
        y.set(1, 0);
        // 142 * 1005 / 1000 is 142, 142 * 1010 / 1000 is 143.
        c.due("lost by the heat", y.would(1000, 6, 1), 2);
    }

    private static void wouldWithTheGovernorOff(Checks c) {
        c.sentence("Promise 19", "with the governor off");
        ShadowLatches x = Checks.late();
        x.set(2, 1);
        x.set(3, 10);
        x.govern(true);
        x.run(4);
        c.due("a window is all but over", x.count(8), 8);
        c.due("500 cycles at 1000", x.would(1000, 500, 2), 500 * 2 * 100);
        c.due("the governor is still on", x.count(2), 1);
        c.due("its window is as it was", x.count(8), 8);
        x.run(1);
        c.due("and it looks", x.count(8), 0);
    }

    private static void wouldAtVoltages(Checks c) {
        c.sentence("Promise 19", "- `voltage`: 500 to 1200");
        c.due("energy at 500", new ShadowLatches().would(500, 1, 2), 25);
        c.due("energy at 1200", new ShadowLatches().would(1200, 1, 2), 144);
        for (int voltage : new int[] {499, 1201, 300, 0, -1, Integer.MIN_VALUE, Integer.MAX_VALUE}) {
            c.changesNothing("would(" + voltage + ", 1, 0)", Checks::busy, x -> x.would(voltage, 1, 0), Checks.BAD_VALUE);
        }
    }

    private static void wouldForCycles(Checks c) {
        c.sentence("Promise 19", "- `cycles`: 1 to 500");
        c.due("one", new ShadowLatches().would(1000, 1, 3), 1);
        c.due("five hundred", new ShadowLatches().would(1000, 500, 3), 500);
        ShadowLatches x = Checks.late();
        x.set(2, 20);
        c.due("five hundred with replays", x.would(1000, 500, 3), 500 * 21);
        c.due("their energy at most", x.would(1200, 500, 2), 500 * 21 * 144);
        for (int cycles : new int[] {0, 501, -1, Integer.MIN_VALUE, Integer.MAX_VALUE}) {
            c.changesNothing("would(500, " + cycles + ", 0)", Checks::busy, y -> y.would(500, cycles, 0), Checks.BAD_VALUE);
        }
    }

    private static void wouldTellWhat(Checks c) {
        c.sentence("Promise 19", "- `what`: 0 for complaints, 1 for lost cycles, 2 for energy, 3 for cycles with those of replays, "
            + "4 for the heat then");
        ShadowLatches x = Checks.late();
        x.set(2, 2);
        x.run(2);
        c.due("heat", x.count(1), 21);
        // Of the cycles 7 to 18 the eighth and the twelfth are replayed ones, and the sixteenth uses the path.
        int[] late = {4, 0, 1200, 12, 21};
        for (int what = 0; what < late.length; what++) {
            c.due("would(1000, 4, " + what + ")", x.would(1000, 4, what), late[what]);
        }
        // Of the cycles 7 to 10 the eighth uses the path.
        int[] lost = {0, 4, 100, 4, 22};
        for (int what = 0; what < lost.length; what++) {
            c.due("would(500, 4, " + what + ")", x.would(500, 4, what), lost[what]);
        }
        x.setVoltage(500);
        x.run(6);
        c.due("lost cycles so far", x.count(6), 6);
        c.due("those that would be lost are these alone", x.would(500, 4, 1), 4);
        for (int what : new int[] {-1, 5, Integer.MIN_VALUE, Integer.MAX_VALUE}) {
            c.changesNothing("would(500, 1, " + what + ")", Checks::busy, y -> y.would(500, 1, what), Checks.BAD_VALUE);
        }
    }

    private static void bestInStepsOf50(Checks c) {
        c.sentence("Promise 20", "Tells of the voltages from 500 to 1200 in steps of 50");
        c.due("500 is one", onePath(100, 500, 0).best(1), 500);
        c.due("from 501 on it is 550", onePath(100, 499, 0).best(1), 550);
        // 100000 / 250 is 400, and 100000 / 300 is 333.3..
        c.due("550 is one", onePath(100, 400, 0).best(1), 550);
        c.due("from 551 on it is 600", onePath(100, 399, 0).best(1), 600);
        // 395000 / 850 is 464.7.., and 395000 / 900 is 438.8..
        c.due("1150 is one", onePath(395, 464, 0).best(1), 1150);
        c.due("from 1152 on it is 1200", onePath(395, 463, 0).best(1), 1200);
        c.due("1200 is one", onePath(395, 438, 0).best(1), 1200);
        c.due("1250 is none", onePath(395, 437, 0).best(1), Checks.NONE);
    }

    private static void bestWithoutALostOne(Checks c) {
        c.sentence("Promise 20", "the one by which cycles spend the least energy without a lost one");
        // Below 750 lost, at 750 late: with one replayed 2 * 56 are more than the 64 at 800.
        ShadowLatches x = onePath(100, 200, 40);
        x.set(2, 1);
        c.due("none is late", x.best(1), 800);
        // One of ten: eleven of 56 are less than ten of 64.
        Checks.take(x, "-,-,-,-,-,-,-,-,-,0");
        c.due("one may be late", x.best(10), 750);
        c.due("none may be lost: nine use no path", x.best(9), 500);
        x.set(2, 2);
        // Twelve of 56 are 672, ten of 64 are 640.
        c.due("one late with two replayed", x.best(10), 800);
        x.run(20);
        x.set(0, 100);
        x.set(1, 0);
        x.run(10);
        c.due("one was lost before", x.count(6), 1);
        x.set(0, 200);
        x.set(1, 40);
        c.due("lost ones of before do not count", x.best(9), 500);
    }

    private static void bestOfSeveralTheLeast(Checks c) {
        c.sentence("Promise 20", "of several the least");
        ShadowLatches x = Checks.with(1, "0,-,-,-,-,-,-");
        x.set(2, 1);
        c.due("energy at 700: one is lost", x.would(700, 7, 1), 1);
        c.due("energy at 750, eight of 56", x.would(750, 7, 2), 448);
        c.due("energy at 800, seven of 64", x.would(800, 7, 2), 448);
        c.due("the least of both", x.best(7), 750);
    }

    private static void bestWithTheGovernorOff(Checks c) {
        c.sentence("Promise 20", "with the governor off");
        // From 800 on the governor would step down into lost cycles behind ten.
        ShadowLatches x = onePath(100, 210, 0);
        x.set(3, 10);
        x.set(5, 50);
        x.govern(true);
        c.due("twelve cycles", x.best(12), 800);
        c.due("the governor is still on", x.count(2), 1);
        c.due("the voltage", x.count(0), 1000);
    }

    private static void bestForCycles(Checks c) {
        c.sentence("Promise 20", "- `cycles`: 1 to 200");
        ShadowLatches x = Checks.lost();
        Checks.take(x, "-,0");
        c.due("one cycle without paths", x.best(1), 500);
        c.due("two cycles", x.best(2), Checks.NONE);
        c.due("two hundred cycles", new ShadowLatches().best(200), 500);
        // At 800 the heat comes to 28 degrees behind 32 cycles: 200 * 1040 / 1000 is 208.
        c.due("two hundred cycles with their heat", onePath(100, 208, 0).best(200), 800);
        c.due("that is too much", onePath(100, 207, 0).best(200), 850);
        c.due("but not in the first 32 cycles", onePath(100, 207, 0).best(32), 800);
        for (int cycles : new int[] {0, 201, -1, Integer.MIN_VALUE, Integer.MAX_VALUE}) {
            c.changesNothing("best(" + cycles + ")", Checks::busy, y -> y.best(cycles), Checks.BAD_VALUE);
        }
    }

    private static void noBest(Checks c) {
        c.sentence("Promise 20", "NONE if there is none");
        c.changesNothing("best(1)", Checks::lost, x -> x.best(1), Checks.NONE);
        c.changesNothing("best(200)", Checks::lost, x -> x.best(200), Checks.NONE);
        c.due("with late ones alone there is one", Checks.late().best(1), 700);
    }
}
