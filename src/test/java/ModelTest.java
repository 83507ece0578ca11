/** Long runs of calls by seeds, wrong arguments among them, with each answer held against the model's. */
public final class ModelTest {
    private static final int RUNS = 6000;
    /** One kind of calls types, asks or changes with so many calls at most. */
    private static final int MOST_AT_ONCE = 80;
    private static final int[] WRONG = {-1, Integer.MIN_VALUE, Integer.MAX_VALUE, 0, 1 << 16, 1201, 2001, 401};
    private static final int[][] RANGES = {{50, 1000}, {0, 200}, {1, 20}, {10, 500}, {0, 100}, {1, 50}, {1, 10}};

    private final Checks checks;
    private final ShadowLatches x = new ShadowLatches();
    private final Model model = new Model();
    private final int run;
    private int calls;
    private long seed;

    private ModelTest(Checks checks, int run) {
        this.checks = checks;
        this.run = run;
        seed = run * 7919L + 13;
    }

    public static void main(String[] args) {
        Checks c = new Checks("ModelTest");
        for (int run = 0; run < RUNS; run++) {
            new ModelTest(c, run).calls();
        }
        c.end();
    }

    private void calls() {
        // Some runs have many paths from the start, others grow slowly.
        if (run % 2 == 0) {
            for (int i = 0; i < run % 8; i++) {
                int length = from(10, 250);
                same("addPath(" + length + ")", x.addPath(length), model.addPath(length));
            }
        }
        while (calls + MOST_AT_ONCE <= Checks.MOST_CALLS) {
            one();
        }
    }

    private int next(int bound) {
        seed = seed * 6364136223846793005L + 1442695040888963407L;
        return (int) ((seed >>> 33) % bound);
    }

    private int from(int least, int most) {
        return least + next(most - least + 1);
    }

    /** Mostly a value of the range, its ends and those beside them often, and now and then a wild one. */
    private int value(int least, int most) {
        switch (next(16)) {
            case 0: return least;
            case 1: return most;
            case 2: return least - next(2);
            case 3: return most + next(2);
            case 4: return next(4) == 0 ? WRONG[next(WRONG.length)] : least;
            default: return from(least, most);
        }
    }

    private void same(String what, long got, long want) {
        calls++;
        checks.due("run " + run + ", call " + calls + ": " + what, got, want);
    }

    private void one() {
        int kind = next(40);
        if (kind < 14) {
            change(kind);
        } else if (kind < 20) {
            type();
        } else if (kind < 24) {
            history();
        } else {
            ask();
        }
    }

    private void change(int kind) {
        if (kind < 1) {
            int length = value(10, 400);
            same("addPath(" + length + ")", x.addPath(length), model.addPath(length));
        } else if (kind < 2) {
            int path = value(0, 7);
            int length = value(10, 400);
            same("setLength(" + path + ", " + length + ")", x.setLength(path, length), model.setLength(path, length));
        } else if (kind < 4) {
            int sets = value(1, 16);
            int s = value(0, 9999);
            same("layWorkload(" + sets + ", " + s + ")", x.layWorkload(sets, s), model.layWorkload(sets, s));
        } else if (kind < 6) {
            int voltage = value(500, 1200);
            same("setVoltage(" + voltage + ")", x.setVoltage(voltage), model.setVoltage(voltage));
        } else if (kind < 7) {
            boolean on = next(4) != 0;
            same("govern(" + on + ")", x.govern(on), model.govern(on));
        } else if (kind < 9) {
            int which = value(0, 6);
            int value = which < 0 || which > 6 ? value(0, 10) : value(RANGES[which][0], RANGES[which][1]);
            same("set(" + which + ", " + value + ")", x.set(which, value), model.set(which, value));
        } else {
            int cycles = next(4) == 0 ? value(1, 2000) : value(1, 60);
            same("run(" + cycles + ")", x.run(cycles), model.run(cycles));
        }
    }

    private void type() {
        if (next(3) == 0) {
            same("clearText()", x.clearText(), model.clearText());
        }
        int length = next(12) == 0 ? 70 : next(20);
        char last = ',';
        for (int i = 0; i < length; i++) {
            last = likely(last);
            same("type(" + (int) last + ")", x.type(last), model.type(last));
        }
        same("takeWorkload()", x.takeWorkload(), model.takeWorkload());
    }

    /** Mostly what may follow, so that many texts have no fault. */
    private char likely(char last) {
        if (next(60) == 0) {
            return (char) next(65536);
        }
        if (next(40) == 0) {
            return "01234567-,8 ".charAt(next(12));
        }
        if (last == ',') {
            return next(4) == 0 ? '-' : (char) ('0' + next(next(2) == 0 ? 3 : 8));
        }
        return last == '-' || last >= '7' || next(3) == 0 ? ',' : (char) (last + 1 + next('7' - last));
    }

    private void history() {
        switch (next(4)) {
            case 0: same("keep()", x.keep(), model.keep()); break;
            case 1: same("restore()", x.restore(), model.restore()); break;
            default: same("undo()", x.undo(), model.undo());
        }
    }

    private void ask() {
        int path = value(0, 7);
        int voltage = value(500, 1200);
        int heat = value(20, 120);
        int place = value(0, 15);
        int cycles = next(4) == 0 ? value(1, 500) : value(1, 40);
        int few = next(4) == 0 ? value(1, 200) : value(1, 20);
        int what = value(0, 4);
        int step = next(4) == 0 ? 1 : 3;
        for (int i = next(step); i < 26; i += step) {
            same("count(" + i + ")", x.count(i), model.count(i));
        }
        same("count(" + heat + ")", x.count(heat), model.count(heat));
        same("path(" + path + ", " + what + ")", x.path(path, what), model.path(path, what));
        same("delay(" + path + ", " + voltage + ", " + heat + ")", x.delay(path, voltage, heat), model.delay(path, voltage, heat));
        same("workload(" + place + ")", x.workload(place), model.workload(place));
        same("least(true)", x.least(true), model.least(true));
        same("least(false)", x.least(false), model.least(false));
        same("would(" + voltage + ", " + cycles + ", " + what + ")", x.would(voltage, cycles, what), model.would(voltage, cycles, what));
        same("best(" + few + ")", x.best(few), model.best(few));
    }
}
