/** Promises 6, 8, 9 and 21 (with the governor off). */
public final class CyclesTest {
    public static void main(String[] args) {
        Checks c = new Checks("CyclesTest");
        theVoltageIsSet(c);
        settingsAreSet(c);
        runRefuses(c);
        rightCycles(c);
        lostCycles(c);
        lateCyclesWithReplays(c);
        lostGoesBeforeLate(c);
        heatChangesEachFourthCycle(c);
        heatCountsReplaysAndKeepsItsAim(c);
        anotherHeatMakesALaterPath(c);
        energyIsAddedWithoutOverflow(c);
        countRefuses(c);
        c.end();
    }

    private static void theVoltageIsSet(Checks c) {
        ShadowLatches x = new ShadowLatches();
        c.due("setVoltage(500)", x.setVoltage(500), 1000);
        c.due("setVoltage(1200)", x.setVoltage(1200), 500);
        c.due("count(0)", x.count(0), 1200);
        c.due("count(24)", x.count(24), 2);
        long[] before = Checks.everything(x);
        for (int voltage : new int[] {499, 1201, 0, -1, Integer.MIN_VALUE, Integer.MAX_VALUE}) {
            c.due("setVoltage(" + voltage + ")", x.setVoltage(voltage), Checks.BAD_VALUE);
        }
        c.due("the same", x.setVoltage(1200), Checks.NONE);
        c.unchanged("a refused setVoltage", before, x);
        c.due("undo()", x.undo(), 1);
        c.due("count(0) then", x.count(0), 500);
    }

    private static void settingsAreSet(Checks c) {
        int[] first = {200, 40, 5, 100, 2, 10, 4};
        int[] least = {50, 0, 1, 10, 0, 1, 1};
        int[] most = {1000, 200, 20, 500, 100, 50, 10};
        for (int which = 0; which < 7; which++) {
            ShadowLatches x = new ShadowLatches();
            c.due("count of setting " + which, x.count(17 + which), first[which]);
            c.due("its first value", x.set(which, first[which]), Checks.NONE);
            c.due("its least", x.set(which, least[which]), first[which]);
            long[] before = Checks.everything(x);
            c.due("below its least", x.set(which, least[which] - 1), Checks.BAD_VALUE);
            c.due("above its most", x.set(which, most[which] + 1), Checks.BAD_VALUE);
            c.due("far below", x.set(which, Integer.MIN_VALUE), Checks.BAD_VALUE);
            c.due("far above", x.set(which, Integer.MAX_VALUE), Checks.BAD_VALUE);
            c.due("its least again", x.set(which, least[which]), Checks.NONE);
            c.unchanged("a refused set", before, x);
            c.due("its most", x.set(which, most[which]), least[which]);
            c.due("count of setting " + which + " then", x.count(17 + which), most[which]);
            c.due("undo()", x.undo(), 1);
            c.due("count of setting " + which + " behind undo()", x.count(17 + which), least[which]);
        }
        ShadowLatches x = new ShadowLatches();
        long[] before = Checks.everything(x);
        for (int which : new int[] {-1, 7, Integer.MIN_VALUE, Integer.MAX_VALUE}) {
            c.due("set(" + which + ", 10)", x.set(which, 10), Checks.BAD_VALUE);
        }
        c.unchanged("set of no setting", before, x);
    }

    private static void runRefuses(Checks c) {
        ShadowLatches x = Checks.with(1, "0");
        long[] before = Checks.everything(x);
        for (int cycles : new int[] {0, -1, 2001, Integer.MIN_VALUE, Integer.MAX_VALUE}) {
            c.due("run(" + cycles + ")", x.run(cycles), Checks.BAD_VALUE);
        }
        c.unchanged("a refused run", before, x);
        c.due("run(2000)", x.run(2000), 0);
        c.due("count(3)", x.count(3), 2000);
        c.due("count(24)", x.count(24), 2);
        c.due("undo()", x.undo(), 1);
        c.unchanged("run and undo()", before, x);
    }

    private static void rightCycles(Checks c) {
        ShadowLatches x = Checks.with(1, "0,-,0");
        x.setVoltage(999);
        c.due("run(11)", x.run(11), 0);
        c.due("cycles", x.count(3), 11);
        c.due("work", x.count(4), 11);
        c.due("complaints", x.count(5), 0);
        c.due("lost", x.count(6), 0);
        // 999 * 999 / 10000 = 99.8..; eleven times 99 is 1089
        c.due("energy", x.count(7), 1);
        c.due("place", x.count(11), 2);
        c.due("window cycles while off", x.count(8), 0);
        c.due("window complaints while off", x.count(9), 0);
        x.run(1);
        c.due("the place comes round", x.count(11), 0);
    }

    private static void lostCycles(Checks c) {
        ShadowLatches x = Checks.with(2, "0,-,1");
        x.set(0, 100);
        x.set(1, 41);
        c.due("count(14)", x.count(14), 3);
        c.due("run(4)", x.run(4), 0);
        c.due("cycles", x.count(3), 4);
        c.due("work", x.count(4), 1);
        c.due("complaints", x.count(5), 0);
        c.due("lost", x.count(6), 3);
        c.due("place", x.count(11), 1);
    }

    private static void lateCyclesWithReplays(Checks c) {
        ShadowLatches x = Checks.with(1, "0,-");
        x.set(0, 100);
        x.set(1, 60);
        x.set(2, 7);
        c.due("count(13)", x.count(13), 1);
        c.due("run(3)", x.run(3), 2);
        // two late cycles with seven replayed each, and one right one
        c.due("cycles", x.count(3), 17);
        c.due("work", x.count(4), 3);
        c.due("complaints", x.count(5), 2);
        c.due("lost", x.count(6), 0);
        c.due("energy", x.count(7), 1);
        c.due("place", x.count(11), 1);
        c.due("complaints of the next run alone", x.run(1), 0);
        c.due("window complaints while off", x.count(9), 0);
    }

    private static void lostGoesBeforeLate(Checks c) {
        ShadowLatches x = Checks.with(2, "01");
        x.setLength(1, 200);
        x.set(0, 100);
        x.set(1, 100);
        // 142 is late, 285 is lost
        c.due("count(13)", x.count(13), 1);
        c.due("count(14)", x.count(14), 2);
        c.due("run(1)", x.run(1), 0);
        c.due("lost", x.count(6), 1);
        c.due("cycles", x.count(3), 1);
        c.due("work", x.count(4), 0);
    }

    private static void heatChangesEachFourthCycle(Checks c) {
        // Path 0 is used in the first of four cycles alone: the fourth, which heats, uses none.
        ShadowLatches x = Checks.with(1, "0,-,-,-");
        x.run(40);
        c.due("no path in the fourth", x.count(1), 20);
        x = Checks.with(1, "-,-,-,0");
        x.run(3);
        c.due("three cycles", x.count(1), 20);
        x.run(1);
        c.due("four cycles", x.count(1), 21);
        x.run(36);
        c.due("forty cycles: the aim 20 + 10 is reached", x.count(1), 30);
        x.run(40);
        c.due("it stays", x.count(1), 30);
        x.set(0, 1000);
        x.setVoltage(799);
        x.run(4);
        c.due("it cools to 20 + 7", x.count(1), 29);
        x.run(40);
        c.due("and stays", x.count(1), 27);
        Checks.take(x, "-");
        x.run(28);
        c.due("it cools to 20", x.count(1), 20);
        x.run(8);
        c.due("and no further", x.count(1), 20);
    }

    private static void heatCountsReplaysAndKeepsItsAim(Checks c) {
        ShadowLatches x = Checks.with(8, "01234567");
        x.set(0, 1000);
        x.setVoltage(1200);
        x.run(2000);
        // 8 * 1200 / 100 = 96
        c.due("the greatest heat", x.count(1), 116);
        // Late cycles with three replayed: each fourth cycle is a replayed one, and cools.
        x.setVoltage(1000);
        x.set(0, 150);
        x.set(1, 200);
        x.set(2, 3);
        c.due("spent", x.count(3), 2000);
        c.due("run(10)", x.run(10), 10);
        c.due("heat", x.count(1), 106);
        // With four replayed, five cycles go to each: of 2044, 2048, .. 2060 only 2056 uses paths and heats.
        x.set(2, 4);
        x.setVoltage(1200);
        c.due("run(4)", x.run(4), 4);
        c.due("heat then", x.count(1), 106 - 3 + 1 - 1);
    }

    private static void anotherHeatMakesALaterPath(Checks c) {
        ShadowLatches x = Checks.with(1, "0");
        x.set(0, 142);
        // 142 * 1005 / 1000 is 142 yet at 21 degrees, and 143 at 22: after eight cycles.
        c.due("the cycle that heats is judged before", x.run(8), 0);
        c.due("heat", x.count(1), 22);
        c.due("delay", x.path(0, 1), 143);
        c.due("the next one is late", x.run(1), 1);
    }

    private static void energyIsAddedWithoutOverflow(Checks c) {
        ShadowLatches x = Checks.with(1, "0");
        x.set(0, 50);
        x.set(1, 200);
        x.set(2, 20);
        x.setVoltage(1200);
        for (int i = 0; i < 500; i++) {
            c.due("run(2000)", x.run(2000), 2000);
        }
        c.due("cycles", x.count(3), 500 * 2000 * 21);
        c.due("energy", x.count(7), 500L * 2000 * 21 * 144 / 1000);
        c.due("complaints", x.count(5), 1000000);
    }

    private static void countRefuses(Checks c) {
        ShadowLatches x = new ShadowLatches();
        for (int what : new int[] {-1, 26, Integer.MIN_VALUE, Integer.MAX_VALUE}) {
            c.due("count(" + what + ")", x.count(what), Checks.BAD_VALUE);
        }
    }
}
