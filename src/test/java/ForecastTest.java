/** Promises 18, 19 and 20. */
public final class ForecastTest {
    public static void main(String[] args) {
        Checks c = new Checks("ForecastTest");
        theLeastVoltage(c);
        theLeastVoltageAsksForUsedPathsAlone(c);
        whatWouldBe(c);
        whatWouldBeBeginsFromNow(c);
        whatWouldBeIsWithoutTheGovernor(c);
        wouldRefuses(c);
        theBestVoltage(c);
        theBestOfSeveralIsTheLeast(c);
        bestRefuses(c);
        c.end();
    }

    private static void theLeastVoltage(Checks c) {
        ShadowLatches x = Checks.with(1, "0");
        // 100000 / (v - 300) is at most 200 from v - 300 = 498 (200.8) on, at most 240 from 415 (240.9) on
        c.due("least(false)", x.least(false), 798);
        c.due("least(true)", x.least(true), 715);
        c.due("delay there", x.delay(0, 798, 20), 200);
        c.due("delay below", x.delay(0, 797, 20), 201);
        x.set(1, 0);
        c.due("without a shadow", x.least(true), 798);
        x.set(0, 1000);
        c.due("all are right", x.least(false), 500);
        x.set(0, 111);
        // 100000 / 893 = 111.9.., and 100000 / 900 = 111.1..
        c.due("just below 1200", x.least(false), 1193);
        x.set(0, 110);
        c.due("1200 is not enough for 110", x.least(false), Checks.NONE);
        x.set(1, 1);
        c.due("with a shadow it is", x.least(true), 1193);
        c.due("but late", x.least(false), Checks.NONE);
        x.setLength(0, 99);
        x.setVoltage(1200);
        c.due("99000 / 900", x.path(0, 1), 110);
        x.setLength(0, 90);
        x.set(0, 100);
        x.set(1, 0);
        // 90000 / 900 = 100, and 90000 / 899 = 100.1..; all from 90000 / 892 = 100.9.. on
        c.due("rounded down", x.least(true), 1192);
        x.setLength(0, 395);
        x.set(0, 438);
        // 395000 / 900 = 438.8.., and 395000 / 899 = 439.3..
        c.due("1200 itself", x.least(true), 1200);
        heatRaisesIt(c);
    }

    private static void heatRaisesIt(Checks c) {
        ShadowLatches x = Checks.with(1, "0");
        x.run(40);
        c.due("heat", x.count(1), 30);
        // at most 200 with 1050 / 1000: at most 191 (200.55); 100000 / d is below 192 from d = 521 on
        c.due("least(false) with heat", x.least(false), 821);
        c.due("delay there", x.delay(0, 821, 30), 200);
        c.due("delay below", x.delay(0, 820, 30), 201);
    }

    private static void theLeastVoltageAsksForUsedPathsAlone(Checks c) {
        ShadowLatches x = Checks.with(3, "0,-,2");
        x.setLength(1, 400);
        x.setLength(2, 50);
        long[] before = Checks.everything(x);
        c.due("an unused path does not count", x.least(false), 798);
        c.unchanged("least", before, x);
        x.setLength(2, 100);
        x.setLength(0, 20);
        c.due("a path of a later set does", x.least(false), 798);
        Checks.take(x, "1");
        c.due("too long", x.least(true), Checks.NONE);
        Checks.take(x, "-");
        c.due("no path", x.least(true), 500);
    }

    private static void whatWouldBe(Checks c) {
        ShadowLatches x = Checks.with(2, "0,1,-");
        x.setLength(1, 120);
        x.set(0, 150);
        x.set(1, 100);
        x.set(2, 3);
        long[] before = Checks.everything(x);
        // At 1000: 142 and 171 (late). Five cycles: two late ones with three replayed each.
        c.due("complaints", x.would(1000, 5, 0), 2);
        c.due("lost", x.would(1000, 5, 1), 0);
        c.due("energy", x.would(1000, 5, 2), 1100);
        c.due("cycles", x.would(1000, 5, 3), 11);
        // The fourth cycle is a replayed one; the eighth is the second late one, which heats.
        c.due("heat", x.would(1000, 5, 4), 21);
        // At 500: 500 and 600, lost.
        c.due("complaints at 500", x.would(500, 5, 0), 0);
        c.due("lost at 500", x.would(500, 5, 1), 4);
        c.due("energy at 500", x.would(500, 5, 2), 125);
        c.due("cycles at 500", x.would(500, 5, 3), 5);
        c.due("heat at 500", x.would(500, 5, 4), 21);
        c.due("500 cycles", x.would(1200, 500, 3), 500 + 3 * x.would(1200, 500, 0));
        c.unchanged("would", before, x);
    }

    private static void whatWouldBeBeginsFromNow(Checks c) {
        ShadowLatches x = Checks.with(1, "0,-");
        x.set(0, 140);
        x.set(1, 100);
        x.run(1);
        x.set(2, 1);
        // Six cycles are spent; the set at hand is the empty one.
        c.due("spent", x.count(3), 6);
        c.due("the empty set", x.would(1000, 1, 0), 0);
        c.due("and the next one", x.would(1000, 2, 0), 1);
        c.due("the cycle that uses the path is the eighth", x.would(1000, 2, 4), 21);
        c.due("energy is of these cycles alone", x.would(1000, 2, 2), 300);
        c.due("cycles are of these alone", x.would(1000, 2, 3), 3);
        x.run(2);
        c.due("heat", x.count(1), 21);
        c.due("it is as it would be", x.count(5), 2);
        c.due("heat is told whole", x.would(500, 1, 4), 21);
        x.set(1, 0);
        x.run(2);
        c.due("one is lost", x.count(6), 1);
        c.due("lost are of these cycles alone", x.would(1000, 4, 1), 2);
        // 866 * 866 / 10000 = 74.9956
        c.due("energy is rounded down in each cycle", x.would(866, 4, 2), 296);
    }

    private static void whatWouldBeIsWithoutTheGovernor(Checks c) {
        ShadowLatches x = new ShadowLatches();
        x.set(3, 10);
        x.govern(true);
        long[] before = Checks.everything(x);
        c.due("would", x.would(1000, 100, 2), 10000);
        c.due("best", x.best(100), 500);
        c.unchanged("would and best", before, x);
        x.run(10);
        c.due("the governor is still on", x.count(0), 990);
    }

    private static void wouldRefuses(Checks c) {
        ShadowLatches x = Checks.with(1, "0");
        int[] voltages = {499, 1201, Integer.MIN_VALUE, Integer.MAX_VALUE};
        int[] cycles = {0, -1, 501, Integer.MIN_VALUE, Integer.MAX_VALUE};
        int[] whats = {-1, 5, Integer.MIN_VALUE, Integer.MAX_VALUE};
        for (int voltage : voltages) {
            c.due("would(" + voltage + ", 1, 0)", x.would(voltage, 1, 0), Checks.BAD_VALUE);
        }
        for (int n : cycles) {
            c.due("would(500, " + n + ", 0)", x.would(500, n, 0), Checks.BAD_VALUE);
        }
        for (int what : whats) {
            c.due("would(500, 1, " + what + ")", x.would(500, 1, what), Checks.BAD_VALUE);
        }
        c.due("would(500, 500, 3)", x.would(500, 500, 3), 500);
        c.due("would(1200, 1, 3)", x.would(1200, 1, 3), 1);
    }

    private static void theBestVoltage(Checks c) {
        ShadowLatches x = Checks.with(1, "0");
        x.set(2, 1);
        // Lost below 715, late below 798: 750 would spend 2 * 56, 800 spends 64.
        c.due("a replay costs more than voltage", x.best(1), 800);
        Checks.take(x, "-,-,-,0");
        // Four cycles: five of 56 at 750 are 280, four of 64 at 800 are 256.
        c.due("four cycles", x.best(4), 800);
        Checks.take(x, "-,-,-,-,-,-,-,-,-,0");
        // Ten cycles: eleven of 56 at 750 are 616, ten of 64 are 640.
        c.due("ten cycles", x.best(10), 750);
        c.due("nine cycles use no path", x.best(9), 500);
        long[] before = Checks.everything(x);
        x.best(200);
        c.unchanged("best", before, x);
        x.setLength(0, 400);
        c.due("all lose", x.best(10), Checks.NONE);
        x.set(0, 444);
        x.set(1, 0);
        c.due("all but 1200 lose", x.best(10), 1200);
        x.set(0, 200);
        c.due("but not in nine cycles", x.best(9), 500);
        x.run(9);
        c.due("the set at hand counts", x.best(1), Checks.NONE);
    }

    private static void theBestOfSeveralIsTheLeast(Checks c) {
        ShadowLatches x = Checks.with(1, "0");
        x.set(0, 50);
        x.set(1, 100);
        x.setLength(0, 90);
        // Up to 1200 the delay is at least 100: late wherever it is not lost (90000 / 600 = 150).
        x.set(2, 1);
        c.due("the least that is not lost", x.best(1), 900);
        // Lost ones do not hinder later voltages, nor does their energy.
        c.due("would(850, 1, 1)", x.would(850, 1, 1), 1);
        c.due("would(900, 1, 1)", x.would(900, 1, 1), 0);
        ShadowLatches y = Checks.with(1, "0,-,-,-,-,-,-");
        y.set(2, 1);
        // Seven cycles: eight of 56 at 750 are 448, seven of 64 at 800 are 448.
        c.due("energy at 750", y.would(750, 7, 2), 448);
        c.due("energy at 800", y.would(800, 7, 2), 448);
        c.due("of both the least", y.best(7), 750);
    }

    private static void bestRefuses(Checks c) {
        ShadowLatches x = new ShadowLatches();
        for (int cycles : new int[] {0, -1, 201, Integer.MIN_VALUE, Integer.MAX_VALUE}) {
            c.due("best(" + cycles + ")", x.best(cycles), Checks.BAD_VALUE);
        }
        c.due("best(200)", x.best(200), 500);
    }
}
