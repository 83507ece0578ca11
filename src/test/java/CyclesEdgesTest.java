/** Each boundary that the section CYCLES and the promise 9 name, by itself. */
public final class CyclesEdgesTest {
    private static final String SIXTEEN = "0,-,-,-,-,-,-,-,-,-,-,-,-,-,-,0";

    public static void main(String[] args) {
        Checks c = new Checks("CyclesEdgesTest");
        oneToSixteenSets(c);
        aSetMayBeEmpty(c);
        againAndAgain(c);
        oneEmptySetAtFirst(c);
        anyOfThemLost(c);
        nothingIsKnownOfALostCycle(c);
        anyOfThemLate(c);
        asManyReplayedAsTheSettingTells(c);
        nothingIsUsedInAReplay(c);
        otherwiseRight(c);
        oneWorkBehindAComplaint(c);
        theNextSetInAnyCase(c);
        energyRoundsDown(c);
        energyOfReplays(c);
        heatComesNearerByOne(c);
        heatIsAimedAtRoundedDown(c);
        heatStaysBelow120(c);
        noPathsInAReplay(c);
        eachFourthCycle(c);
        cyclesToRun(c);
        replaysComeOnTop(c);
        complaintsInThem(c);
        c.end();
    }

    private static void oneToSixteenSets(Checks c) {
        c.sentence("CYCLES", "A workload is a row of 1 to 16 sets of paths");
        ShadowLatches x = new ShadowLatches();
        c.due("no set", x.layWorkload(0, 5), Checks.BAD_VALUE);
        c.due("no set in a text", Checks.take(x, ""), -100);
        x.layWorkload(1, 5);
        c.due("one set", x.count(10), 1);
        c.due("its only place", x.workload(1), Checks.NONE);
        x.layWorkload(16, 5);
        c.due("sixteen sets", x.count(10), 16);
        c.due("the place behind", x.workload(16), Checks.NONE);
        c.due("seventeen sets", x.layWorkload(17, 5), Checks.BAD_VALUE);
        c.due("sixteen in a text", Checks.take(x, SIXTEEN), 16);
        c.due("seventeen in a text", Checks.take(x, SIXTEEN + ",0"), -131);
    }

    private static void aSetMayBeEmpty(Checks c) {
        c.sentence("CYCLES", "(as bits; a set may be empty)");
        ShadowLatches x = Checks.with(2, "-,01");
        c.due("the empty one", x.workload(0), 0);
        c.due("the full one", x.workload(1), 3);
        x.set(0, 50);
        x.set(1, 0);
        x.run(1);
        c.due("nothing is lost in the empty one", x.count(6), 0);
        c.due("it is right", x.count(4), 1);
        x.run(1);
        c.due("the full one is lost", x.count(6), 1);
    }

    private static void againAndAgain(Checks c) {
        c.sentence("CYCLES", "gone through again and again, one set in each cycle");
        ShadowLatches x = Checks.with(1, SIXTEEN);
        c.due("at first", x.count(11), 0);
        x.run(15);
        c.due("behind fifteen", x.count(11), 15);
        c.due("uses", x.path(0, 3), 1);
        x.run(1);
        c.due("behind sixteen", x.count(11), 0);
        c.due("uses", x.path(0, 3), 2);
        x.run(1);
        c.due("behind seventeen", x.count(11), 1);
        c.due("uses", x.path(0, 3), 3);
        x.run(2000);
        c.due("behind 2017", x.count(11), 1);
        c.due("uses", x.path(0, 3), 253);
        Checks.take(x, "0");
        x.run(3);
        c.due("with one set", x.count(11), 0);
        c.due("uses", x.path(0, 3), 256);
    }

    private static void oneEmptySetAtFirst(Checks c) {
        c.sentence("CYCLES", "(one set, that of no paths, at first)");
        ShadowLatches x = new ShadowLatches();
        c.due("sets", x.count(10), 1);
        c.due("workload(0)", x.workload(0), 0);
        c.due("workload(1)", x.workload(1), Checks.NONE);
    }

    /** Eight paths in use, all right but one. */
    private static ShadowLatches allRightBut(int path, int length) {
        ShadowLatches x = Checks.with(8, "01234567");
        x.set(0, 150);
        x.set(1, 100);
        x.setLength(path, length);
        return x;
    }

    private static void anyOfThemLost(Checks c) {
        c.sentence("CYCLES", "If any of them is lost, the cycle is lost: it is counted");
        for (int path = 0; path < 8; path++) {
            // 176000 / 700 is 251, more than 250; 175000 / 700 is 250.
            ShadowLatches x = allRightBut(path, 176);
            c.due("complaints with path " + path + " lost", x.run(1), 0);
            c.due("lost cycles", x.count(6), 1);
            c.due("work", x.count(4), 0);
            x = allRightBut(path, 175);
            c.due("complaints with path " + path + " late", x.run(1), 1);
            c.due("lost cycles", x.count(6), 0);
        }
        ShadowLatches x = allRightBut(0, 176);
        for (int path = 1; path < 8; path++) {
            x.setLength(path, 175);
        }
        c.due("complaints with one lost and all others late", x.run(1), 0);
        c.due("lost cycles", x.count(6), 1);
    }

    private static void nothingIsKnownOfALostCycle(Checks c) {
        c.sentence("CYCLES", "and nothing is known of it by the circuit");
        ShadowLatches x = Checks.lost();
        x.set(3, 10);
        x.govern(true);
        c.due("run(9)", x.run(9), 0);
        c.due("complaints", x.count(5), 0);
        c.due("complaints since the governor looked", x.count(9), 0);
        c.due("cycles, without replays", x.count(3), 9);
        c.due("cycles since the governor looked", x.count(8), 9);
        c.due("work", x.count(4), 0);
        x.run(1);
        c.due("the governor hears of no complaint", x.count(0), 990);
    }

    private static void anyOfThemLate(Checks c) {
        c.sentence("CYCLES", "Otherwise, if any of them is late, the shadows complain: a complaint is counted, and a replay follows");
        for (int path = 0; path < 8; path++) {
            // 105000 / 700 is 150; 106000 / 700 is 151, more than 150.
            ShadowLatches x = allRightBut(path, 106);
            c.due("complaints with path " + path + " late", x.run(1), 1);
            c.due("complaints so far", x.count(5), 1);
            c.due("cycles, with the replay", x.count(3), 6);
            x = allRightBut(path, 105);
            c.due("complaints with path " + path + " right", x.run(1), 0);
            c.due("cycles, without a replay", x.count(3), 1);
        }
        ShadowLatches all = Checks.with(8, "01234567");
        all.set(0, 100);
        all.set(1, 100);
        c.due("all late are one complaint", all.run(1), 1);
        c.due("and one replay", all.count(3), 6);
    }

    private static void asManyReplayedAsTheSettingTells(Checks c) {
        c.sentence("CYCLES", "so many cycles as the setting 2 tells are spent");
        for (int replayed : new int[] {1, 5, 20}) {
            ShadowLatches x = Checks.late();
            x.set(2, replayed);
            x.run(1);
            c.due("one late cycle with " + replayed, x.count(3), 1 + replayed);
        }
    }

    private static void nothingIsUsedInAReplay(Checks c) {
        c.sentence("CYCLES", "in which nothing is used");
        ShadowLatches x = Checks.late();
        x.set(2, 20);
        x.run(1);
        c.due("uses", x.path(0, 3), 1);
        c.due("heat", x.count(1), 20);
    }

    private static void otherwiseRight(Checks c) {
        c.sentence("CYCLES", "Otherwise the cycle is right: one work is done.");
        ShadowLatches x = allRightBut(7, 105);
        x.run(1);
        c.due("work", x.count(4), 1);
        c.due("cycles", x.count(3), 1);
        c.due("complaints", x.count(5), 0);
        c.due("lost cycles", x.count(6), 0);
        ShadowLatches empty = new ShadowLatches();
        empty.run(1);
        c.due("work of a cycle without paths", empty.count(4), 1);
    }

    private static void oneWorkBehindAComplaint(Checks c) {
        c.sentence("CYCLES", "Behind a complaint (with its replay) one work is done, too.");
        ShadowLatches x = Checks.late();
        x.set(2, 20);
        x.run(1);
        c.due("work", x.count(4), 1);
        x.run(1);
        c.due("work", x.count(4), 2);
    }

    private static void theNextSetInAnyCase(Checks c) {
        c.sentence("CYCLES", "The set at hand is the next one in any case.");
        ShadowLatches right = Checks.with(1, "0,-");
        right.run(1);
        c.due("behind a right one", right.count(11), 1);
        ShadowLatches late = Checks.late();
        Checks.take(late, "0,-");
        c.due("a complaint", late.run(1), 1);
        c.due("behind a late one", late.count(11), 1);
        ShadowLatches lost = Checks.lost();
        Checks.take(lost, "0,-");
        lost.run(1);
        c.due("a lost one", lost.count(6), 1);
        c.due("behind a lost one", lost.count(11), 1);
    }

    private static void energyRoundsDown(Checks c) {
        c.sentence("CYCLES", "spends energy: voltage * voltage / 10000, rounded down");
        ShadowLatches x = new ShadowLatches();
        // 510 * 510 is 260100, 509 * 509 is 259081; 728 * 728 is 529984; 1199 * 1199 is 1437601.
        int[] voltages = {500, 509, 510, 728, 999, 1000, 1199, 1200};
        int[] energies = {25, 25, 26, 52, 99, 100, 143, 144};
        for (int i = 0; i < voltages.length; i++) {
            c.due("one cycle at " + voltages[i], x.would(voltages[i], 1, 2), energies[i]);
            c.due("a hundred cycles at " + voltages[i], x.would(voltages[i], 100, 2), 100 * energies[i]);
        }
    }

    private static void energyOfReplays(Checks c) {
        c.sentence("CYCLES", "Each cycle, those of replays too, spends energy");
        ShadowLatches x = Checks.late();
        x.set(2, 1);
        c.due("with one replayed", x.would(1000, 1, 2), 200);
        x.set(2, 20);
        c.due("with twenty replayed", x.would(1000, 1, 2), 2100);
        c.due("a lost cycle", Checks.lost().would(1000, 1, 2), 100);
        x.run(1);
        c.due("count(7)", x.count(7), 2);
    }

    private static void heatComesNearerByOne(Checks c) {
        c.sentence("CYCLES", "behind each cycle the heat comes nearer by 1 degree");
        ShadowLatches x = Checks.with(1, "0");
        x.run(36);
        c.due("one below 30", x.count(1), 29);
        x.run(4);
        c.due("30 is reached", x.count(1), 30);
        x.run(4);
        c.due("it stays at 30", x.count(1), 30);
        Checks.take(x, "-");
        x.run(36);
        c.due("one above 20", x.count(1), 21);
        x.run(4);
        c.due("20 is reached", x.count(1), 20);
        x.run(4);
        c.due("it stays at 20", x.count(1), 20);
    }

    private static void heatIsAimedAtRoundedDown(Checks c) {
        c.sentence("CYCLES", "20 + (the number of paths used in it * voltage) / 100, rounded down");
        int[] voltages = {599, 600, 550, 549};
        int[] paths = {1, 1, 2, 2};
        int[] heats = {25, 26, 31, 30};
        for (int i = 0; i < voltages.length; i++) {
            ShadowLatches x = Checks.with(2, paths[i] == 1 ? "1" : "01");
            x.set(0, 1000);
            x.setVoltage(voltages[i]);
            x.run(400);
            c.due(paths[i] + " paths at " + voltages[i], x.count(1), heats[i]);
        }
    }

    private static void heatStaysBelow120(Checks c) {
        c.sentence("CYCLES", "(at most 120; 0 paths in a replay)");
        // Eight paths at 1200 aim at 116: no circuit comes as far as 120.
        ShadowLatches x = Checks.with(8, "01234567");
        x.set(0, 1000);
        x.setVoltage(1200);
        x.run(4 * 96 - 1);
        c.due("one below", x.count(1), 115);
        x.run(1);
        c.due("the greatest heat", x.count(1), 116);
        x.run(2000);
        c.due("it stays", x.count(1), 116);
        c.due("the delay at it", x.path(0, 1), 111 * 1480 / 1000);
    }

    private static void noPathsInAReplay(Checks c) {
        c.sentence("CYCLES", "0 paths in a replay");
        ShadowLatches x = Checks.late();
        x.set(2, 3);
        x.run(100);
        c.due("each fourth cycle is a replayed one", x.count(1), 20);
        x.set(2, 4);
        x.run(4);
        c.due("cycles", x.count(3), 420);
        // The late cycles are 401, 406, 411 and 416, and only the last of these can be divided by 4.
        c.due("416 heats, 420 cools", x.count(1), 20);
        x.undo();
        x.run(3);
        c.due("cycles", x.count(3), 415);
        x.set(2, 1);
        x.run(1);
        c.due("416 heats", x.count(1), 21);
    }

    private static void eachFourthCycle(Checks c) {
        c.sentence("CYCLES", "if the number of cycles spent so far, this one too, can be divided by 4");
        ShadowLatches x = Checks.with(1, "0");
        int[] heats = {20, 20, 20, 21, 21, 21, 21, 22, 22};
        for (int i = 0; i < heats.length; i++) {
            x.run(1);
            c.due("heat behind cycle " + (i + 1), x.count(1), heats[i]);
        }
    }

    private static void cyclesToRun(Checks c) {
        c.sentence("Promise 9", "- `cycles`: 1 to 2000");
        ShadowLatches x = new ShadowLatches();
        c.due("run(1)", x.run(1), 0);
        c.due("cycles", x.count(3), 1);
        c.due("run(2000)", x.run(2000), 0);
        c.due("cycles", x.count(3), 2001);
        for (int cycles : new int[] {0, 2001, -1, Integer.MIN_VALUE, Integer.MAX_VALUE}) {
            c.changesNothing("run(" + cycles + ")", Checks::busy, y -> y.run(cycles), Checks.BAD_VALUE);
        }
    }

    private static void replaysComeOnTop(Checks c) {
        c.sentence("Promise 9", "Runs cycles of the workload (replays come on top).");
        ShadowLatches x = Checks.late();
        x.set(2, 20);
        x.run(2000);
        c.due("cycles", x.count(3), 2000 * 21);
        c.due("uses", x.path(0, 3), 2000);
    }

    private static void complaintsInThem(Checks c) {
        c.sentence("Promise 9", "Returns how many complaints there are in them");
        ShadowLatches x = Checks.late();
        c.due("all of 2000", x.run(2000), 2000);
        c.due("the one of one", x.run(1), 1);
        c.due("so far", x.count(5), 2001);
        Checks.take(x, "-");
        c.due("none", x.run(2000), 0);
        c.due("none of lost cycles", Checks.lost().run(2000), 0);
    }
}
