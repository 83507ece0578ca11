/** Each boundary that the promises 5 and 17 name, by itself. */
public final class WorkloadsEdgesTest {
    public static void main(String[] args) {
        Checks c = new Checks("WorkloadsEdgesTest");
        seedsAreRemainders(c);
        setsAreRemainders(c);
        itBeginsWithItsFirstSet(c);
        setsToLay(c);
        seedsToLay(c);
        usesTogether(c);
        placesFrom0(c);
        negativePlaces(c);
        notSoMany(c);
        c.end();
    }

    private static ShadowLatches laid(int paths, int sets, int seed) {
        ShadowLatches x = Checks.with(paths, "-");
        x.layWorkload(sets, seed);
        return x;
    }

    private static void seedsAreRemainders(Checks c) {
        c.sentence("Promise 5", "for each set the seed becomes (421 * seed + 1663) % 10000");
        // 421 * 7597 + 1663 is 3200000: the seed 0, and 1663 behind it (1663 / 16 is 103).
        ShadowLatches zero = laid(8, 2, 7597);
        c.due("the seed 0", zero.workload(0), 0);
        c.due("the seed behind it", zero.workload(1), 103);
        // 421 * 9616 + 1663 is 4049999: the seed 9999 (9999 / 16 is 624), and 1242 behind it (77).
        ShadowLatches last = laid(8, 2, 9616);
        c.due("the seed 9999", last.workload(0), 624 - 512);
        c.due("the seed behind it", last.workload(1), 77);
        long seed = 0;
        ShadowLatches all = laid(8, 16, 0);
        for (int i = 0; i < 16; i++) {
            seed = (421 * seed + 1663) % 10000;
            c.due("workload(" + i + ")", all.workload(i), seed / 16 % 256);
        }
        c.due("the sixteenth seed behind 0", seed, 3808);
    }

    private static void setsAreRemainders(Checks c) {
        c.sentence("Promise 5", "the set is seed / 16 % (2 to the power of the paths)");
        c.due("the seed 15", laid(8, 1, 7312).workload(0), 0);
        c.due("the seed 16", laid(8, 1, 5293).workload(0), 1);
        c.due("the seed 31 with one path", laid(1, 1, 5008).workload(0), 1);
        c.due("the seed 32 with one path", laid(1, 1, 2989).workload(0), 0);
        c.due("the seed 32 with two paths", laid(2, 1, 2989).workload(0), 2);
        c.due("the seed 4095 with eight paths", laid(8, 1, 9792).workload(0), 255);
        c.due("the seed 4096 with eight paths", laid(8, 1, 7773).workload(0), 0);
        c.due("the seed 4095 with seven paths", laid(7, 1, 9792).workload(0), 127);
        c.due("the seed 2047 with seven paths", laid(7, 1, 4704).workload(0), 127);
        c.due("the seed 2048 with seven paths", laid(7, 1, 2685).workload(0), 0);
        c.due("the seed 2048 with eight paths", laid(8, 1, 2685).workload(0), 128);
    }

    private static void itBeginsWithItsFirstSet(Checks c) {
        c.sentence("Promise 5", "It begins with its first set.");
        ShadowLatches x = laid(3, 16, 1);
        x.run(15);
        c.due("the place", x.count(11), 15);
        x.layWorkload(16, 1);
        c.due("the place", x.count(11), 0);
        x.run(15);
        x.layWorkload(1, 1);
        c.due("the place in a shorter one", x.count(11), 0);
    }

    private static void setsToLay(Checks c) {
        c.sentence("Promise 5", "- `sets`: 1 to 16");
        c.due("one", laid(1, 1, 5).count(10), 1);
        c.due("sixteen", laid(1, 16, 5).count(10), 16);
        for (int sets : new int[] {0, 17, -1, Integer.MIN_VALUE, Integer.MAX_VALUE}) {
            c.changesNothing("layWorkload(" + sets + ", 5)", Checks::busy, x -> x.layWorkload(sets, 5), Checks.BAD_VALUE);
        }
    }

    private static void seedsToLay(Checks c) {
        c.sentence("Promise 5", "- `seed`: 0 to 9999");
        // 1663 / 16 is 103; 421 * 9999 + 1663 is 4211242, and 1242 / 16 is 77.
        c.due("the seed 0", laid(8, 1, 0).workload(0), 103);
        c.due("the seed 9999", laid(8, 1, 9999).workload(0), 77);
        for (int seed : new int[] {-1, 10000, Integer.MIN_VALUE, Integer.MAX_VALUE}) {
            c.changesNothing("layWorkload(5, " + seed + ")", Checks::busy, x -> x.layWorkload(5, seed), Checks.BAD_VALUE);
        }
    }

    private static void usesTogether(Checks c) {
        c.sentence("Promise 5", "Returns how often paths are used in it, together");
        c.due("none: the seed 4096", Checks.with(8, "-").layWorkload(1, 7773), 0);
        c.due("none is no error: it is an act", laid(8, 1, 7773).count(24), 4);
        c.due("eight: the seed 4095", Checks.with(8, "-").layWorkload(1, 9792), 8);
        // 103 and 77: 5 paths, and 4 behind the seed 9999, whose set is 112: 3 paths.
        c.due("in two sets", Checks.with(8, "-").layWorkload(2, 9616), 3 + 4);
    }

    private static void placesFrom0(Checks c) {
        c.sentence("Promise 17", "- `place`: a place in it, from 0");
        ShadowLatches x = Checks.with(8, "0,1,2,3,4,5,6,7,01,12,23,34,45,56,67,-");
        int[] sets = {1, 2, 4, 8, 16, 32, 64, 128, 3, 6, 12, 24, 48, 96, 192, 0};
        for (int place = 0; place < 16; place++) {
            c.due("workload(" + place + ")", x.workload(place), sets[place]);
        }
    }

    private static void negativePlaces(Checks c) {
        c.sentence("Promise 17", "BAD_VALUE if place is negative");
        for (int place : new int[] {-1, -2, Integer.MIN_VALUE}) {
            c.changesNothing("workload(" + place + ")", Checks::busy, x -> x.workload(place), Checks.BAD_VALUE);
        }
        c.due("workload(0)", Checks.busy().workload(0), 1);
    }

    private static void notSoMany(Checks c) {
        c.sentence("Promise 17", "NONE if there are not so many");
        for (int place : new int[] {4, 15, 16, Integer.MAX_VALUE}) {
            c.changesNothing("workload(" + place + ")", Checks::busy, x -> x.workload(place), Checks.NONE);
        }
        c.due("workload(3)", Checks.busy().workload(3), 3);
        c.due("the only one", Checks.with(1, "0").workload(0), 1);
        c.due("behind the only one", Checks.with(1, "0").workload(1), Checks.NONE);
        c.due("behind sixteen", laid(1, 16, 5).workload(16), Checks.NONE);
        ShadowLatches x = laid(1, 16, 5);
        x.layWorkload(2, 5);
        c.due("what is left of a longer one", x.workload(2), Checks.NONE);
    }
}
