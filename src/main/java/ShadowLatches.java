/** A circuit whose voltage is lowered until its shadow latches complain; ../shared/DOC.md says what it does. */
public final class ShadowLatches {
    public static final int UNKNOWN = -1;
    public static final int BAD_VALUE = -2;
    public static final int FULL = -3;
    public static final int NOT_POSSIBLE = -4;
    public static final int NONE = -5;

    private static final int MOST_STATES = 4;
    private static final int VOLTAGE_GRID = 50;
    private static final int FAULT_BASE = -100;
    /** What count() is asked for to tell the setting 0; the others follow it. */
    private static final int COUNT_OF_SETTINGS = 17;

    private final Circuit now;
    private final Circuit kept;
    /** Serves would() and best() alone: cycles are tried here, so that the real circuit stays as it is. */
    private final Circuit trial;
    private final Circuit[] history;
    private final WorkloadText text;
    private int states;
    private boolean hasKept;

    public ShadowLatches() {
        now = new Circuit();
        kept = new Circuit();
        trial = new Circuit();
        history = new Circuit[MOST_STATES];
        for (int i = 0; i < MOST_STATES; i++) {
            history[i] = new Circuit();
        }
        text = new WorkloadText();
    }

    // ---- paths, workloads

    public int addPath(int length) {
        if (!isLength(length)) {
            return BAD_VALUE;
        }
        if (now.paths >= Circuit.MOST_PATHS) {
            return FULL;
        }
        recordState();
        int added = now.paths;
        now.lengths[added] = length;
        now.paths = added + 1;
        return added;
    }

    public int setLength(int path, int length) {
        if (!isPath(path)) {
            return UNKNOWN;
        }
        if (!isLength(length)) {
            return BAD_VALUE;
        }
        int previous = now.lengths[path];
        if (previous == length) {
            return NONE;
        }
        recordState();
        now.lengths[path] = length;
        return previous;
    }

    public int takeWorkload() {
        int fault = text.read();
        if (fault != WorkloadText.NO_FAULT) {
            return FAULT_BASE - fault;
        }
        for (int i = 0; i < text.setCount; i++) {
            if (text.sets[i] >= 1 << now.paths) {
                return UNKNOWN;
            }
        }
        recordState();
        for (int i = 0; i < text.setCount; i++) {
            now.sets[i] = text.sets[i];
        }
        now.beginWorkload(text.setCount);
        return text.setCount;
    }

    public int layWorkload(int sets, int seed) {
        if (!isWithin(sets, 1, Circuit.MOST_SETS) || !isWithin(seed, 0, 9999)) {
            return BAD_VALUE;
        }
        recordState();
        int grown = seed;
        int uses = 0;
        for (int i = 0; i < sets; i++) {
            grown = (421 * grown + 1663) % 10000;
            now.sets[i] = grown / 16 % (1 << now.paths);
            uses += Integer.bitCount(now.sets[i]);
        }
        now.beginWorkload(sets);
        return uses;
    }

    // ---- voltage, settings

    public int setVoltage(int voltage) {
        if (!isVoltage(voltage)) {
            return BAD_VALUE;
        }
        int previous = now.voltage;
        if (previous == voltage) {
            return NONE;
        }
        recordState();
        now.voltage = voltage;
        return previous;
    }

    public int govern(boolean on) {
        if (now.governed == on) {
            return NONE;
        }
        recordState();
        now.governed = on;
        now.beginWindow();
        return now.voltage;
    }

    public int set(int which, int value) {
        if (!isWithin(which, 0, Circuit.SETTINGS - 1)) {
            return BAD_VALUE;
        }
        if (!isWithin(value, Circuit.LEAST_SETTINGS[which], Circuit.MOST_SETTINGS[which])) {
            return BAD_VALUE;
        }
        int previous = now.settings[which];
        if (previous == value) {
            return NONE;
        }
        recordState();
        now.settings[which] = value;
        return previous;
    }

    public int run(int cycles) {
        if (!isWithin(cycles, 1, 2000)) {
            return BAD_VALUE;
        }
        recordState();
        int before = now.complaints;
        now.runCycles(cycles);
        return now.complaints - before;
    }

    // ---- texts

    public int type(char character) {
        return text.append(character) ? text.length : FULL;
    }

    public int clearText() {
        int had = text.length;
        text.length = 0;
        return had;
    }

    // ---- history

    public int undo() {
        if (states == 0) {
            return NONE;
        }
        states--;
        now.copyFrom(history[states]);
        return states;
    }

    public int keep() {
        kept.copyFrom(now);
        hasKept = true;
        return now.voltage;
    }

    public int restore() {
        if (!hasKept) {
            return NONE;
        }
        recordState();
        now.copyFrom(kept);
        return now.voltage;
    }

    // ---- what is told

    public int path(int path, int what) {
        if (!isPath(path)) {
            return UNKNOWN;
        }
        switch (what) {
            case 0: return now.lengths[path];
            case 1: return now.delayNow(path);
            case 2: return now.judge(now.delayNow(path));
            case 3: return now.uses[path];
            case 4: return now.setsWith(path);
            default: return BAD_VALUE;
        }
    }

    public int delay(int path, int voltage, int heat) {
        if (!isPath(path)) {
            return UNKNOWN;
        }
        if (!isVoltage(voltage) || !isWithin(heat, Circuit.LEAST_HEAT, Circuit.MOST_HEAT)) {
            return BAD_VALUE;
        }
        return Circuit.delayOf(now.lengths[path], voltage, heat);
    }

    public int workload(int place) {
        if (place < 0) {
            return BAD_VALUE;
        }
        return place < now.setCount ? now.sets[place] : NONE;
    }

    public int least(boolean lost) {
        int longest = now.longestInWorkload();
        int allowed = lost ? Circuit.LATE : Circuit.RIGHT;
        for (int voltage = Circuit.LEAST_VOLTAGE; voltage <= Circuit.MOST_VOLTAGE; voltage++) {
            if (now.judge(Circuit.delayOf(longest, voltage, now.heat)) <= allowed) {
                return voltage;
            }
        }
        return NONE;
    }

    public int would(int voltage, int cycles, int what) {
        if (!isVoltage(voltage) || !isWithin(cycles, 1, 500) || !isWithin(what, 0, 4)) {
            return BAD_VALUE;
        }
        tryCycles(voltage, cycles);
        switch (what) {
            case 0: return trial.complaints - now.complaints;
            case 1: return trial.lost - now.lost;
            case 2: return (int) (trial.energy - now.energy);
            case 3: return trial.spent - now.spent;
            default: return trial.heat;
        }
    }

    public int best(int cycles) {
        if (!isWithin(cycles, 1, 200)) {
            return BAD_VALUE;
        }
        int found = NONE;
        long leastEnergy = 0;
        for (int voltage = Circuit.LEAST_VOLTAGE; voltage <= Circuit.MOST_VOLTAGE; voltage += VOLTAGE_GRID) {
            tryCycles(voltage, cycles);
            long energy = trial.energy - now.energy;
            if (trial.lost == now.lost && (found == NONE || energy < leastEnergy)) {
                found = voltage;
                leastEnergy = energy;
            }
        }
        return found;
    }

    public int count(int what) {
        if (isWithin(what, COUNT_OF_SETTINGS, COUNT_OF_SETTINGS + Circuit.SETTINGS - 1)) {
            return now.settings[what - COUNT_OF_SETTINGS];
        }
        switch (what) {
            case 0: return now.voltage;
            case 1: return now.heat;
            case 2: return now.governed ? 1 : 0;
            case 3: return now.spent;
            case 4: return now.work;
            case 5: return now.complaints;
            case 6: return now.lost;
            case 7: return (int) (now.energy / 1000);
            case 8: return now.windowCycles;
            case 9: return now.windowComplaints;
            case 10: return now.setCount;
            case 11: return now.place;
            case 12: return now.paths;
            case 13: return now.pathsJudged(Circuit.LATE);
            case 14: return now.pathsJudged(Circuit.LOST);
            case 15: return now.stepsUp;
            case 16: return now.stepsDown;
            case 24: return states;
            case 25: return text.length;
            default: return BAD_VALUE;
        }
    }

    // ---- helpers

    private static boolean isWithin(int value, int least, int most) {
        return value >= least && value <= most;
    }

    private static boolean isLength(int length) {
        return isWithin(length, 10, 400);
    }

    private static boolean isVoltage(int voltage) {
        return isWithin(voltage, Circuit.LEAST_VOLTAGE, Circuit.MOST_VOLTAGE);
    }

    private boolean isPath(int path) {
        return isWithin(path, 0, now.paths - 1);
    }

    /** To be called by an act when nothing can refuse it any more, and before it changes anything. */
    private void recordState() {
        if (states == MOST_STATES) {
            dropOldestState();
        }
        history[states].copyFrom(now);
        states++;
    }

    private void dropOldestState() {
        // The dropped state's object goes to the end to be filled again: no act makes a new object.
        Circuit oldest = history[0];
        for (int i = 1; i < MOST_STATES; i++) {
            history[i - 1] = history[i];
        }
        history[MOST_STATES - 1] = oldest;
        states = MOST_STATES - 1;
    }

    private void tryCycles(int voltage, int cycles) {
        trial.copyFrom(now);
        trial.governed = false;
        trial.voltage = voltage;
        trial.runCycles(cycles);
    }

    /** One state of the circuit: all that undo() and restore() bring back. */
    private static final class Circuit {
        static final int MOST_PATHS = 8;
        static final int MOST_SETS = 16;
        static final int LEAST_VOLTAGE = 500;
        static final int MOST_VOLTAGE = 1200;
        static final int LEAST_HEAT = 20;
        static final int MOST_HEAT = 120;

        static final int RIGHT = 0;
        static final int LATE = 1;
        static final int LOST = 2;

        static final int CYCLE_TIME = 0;
        static final int SHADOW_TIME = 1;
        static final int REPLAY_CYCLES = 2;
        static final int WINDOW_CYCLES = 3;
        static final int AIMED_COMPLAINTS = 4;
        static final int VOLTAGE_STEP = 5;
        static final int MOST_STEPS_UP = 6;
        static final int SETTINGS = 7;

        static final int[] LEAST_SETTINGS = {50, 0, 1, 10, 0, 1, 1};
        static final int[] MOST_SETTINGS = {1000, 200, 20, 500, 100, 50, 10};
        static final int[] FIRST_SETTINGS = {200, 40, 5, 100, 2, 10, 4};

        final int[] lengths;
        final int[] uses;
        int paths;
        final int[] sets;
        int setCount;
        int place;
        final int[] settings;
        int voltage;
        int heat;
        boolean governed;
        /** Cycles and complaints since the governor looked last; both stay 0 while it is off. */
        int windowCycles;
        int windowComplaints;
        int spent;
        int work;
        int complaints;
        int lost;
        /** A long: 512 calls can spend some 3,100,000,000. */
        long energy;
        int stepsUp;
        int stepsDown;

        Circuit() {
            lengths = new int[MOST_PATHS];
            uses = new int[MOST_PATHS];
            sets = new int[MOST_SETS];
            settings = FIRST_SETTINGS.clone();
            lengths[0] = 100;
            paths = 1;
            setCount = 1;
            voltage = 1000;
            heat = LEAST_HEAT;
        }

        void copyFrom(Circuit other) {
            System.arraycopy(other.lengths, 0, lengths, 0, MOST_PATHS);
            System.arraycopy(other.uses, 0, uses, 0, MOST_PATHS);
            System.arraycopy(other.sets, 0, sets, 0, MOST_SETS);
            System.arraycopy(other.settings, 0, settings, 0, SETTINGS);
            paths = other.paths;
            setCount = other.setCount;
            place = other.place;
            voltage = other.voltage;
            heat = other.heat;
            governed = other.governed;
            windowCycles = other.windowCycles;
            windowComplaints = other.windowComplaints;
            spent = other.spent;
            work = other.work;
            complaints = other.complaints;
            lost = other.lost;
            energy = other.energy;
            stepsUp = other.stepsUp;
            stepsDown = other.stepsDown;
        }

        void beginWorkload(int count) {
            setCount = count;
            place = 0;
        }

        void beginWindow() {
            windowCycles = 0;
            windowComplaints = 0;
        }

        /** The voltage is at least LEAST_VOLTAGE at every caller, so the divisor is never 0. */
        static int delayOf(int length, int voltage, int heat) {
            int cool = length * 1000 / (voltage - 300);
            return cool * (900 + heat * 5) / 1000;
        }

        int delayNow(int index) {
            return delayOf(lengths[index], voltage, heat);
        }

        int judge(int delay) {
            if (delay <= settings[CYCLE_TIME]) {
                return RIGHT;
            }
            return delay <= settings[CYCLE_TIME] + settings[SHADOW_TIME] ? LATE : LOST;
        }

        int pathsJudged(int judgement) {
            int found = 0;
            for (int i = 0; i < paths; i++) {
                if (judge(delayNow(i)) == judgement) {
                    found |= 1 << i;
                }
            }
            return found;
        }

        int setsWith(int index) {
            int found = 0;
            for (int i = 0; i < setCount; i++) {
                found += sets[i] >> index & 1;
            }
            return found;
        }

        /** The slowest path decides how a set is judged, and no longer path has a smaller delay. */
        int longestOf(int used) {
            int longest = 0;
            for (int i = 0; i < paths; i++) {
                if ((used >> i & 1) == 1) {
                    longest = Math.max(longest, lengths[i]);
                }
            }
            return longest;
        }

        int longestInWorkload() {
            int used = 0;
            for (int i = 0; i < setCount; i++) {
                used |= sets[i];
            }
            return longestOf(used);
        }

        void runCycles(int cycles) {
            for (int i = 0; i < cycles; i++) {
                runOneCycle();
                if (governed && windowCycles >= settings[WINDOW_CYCLES]) {
                    lookAtWindow();
                }
            }
        }

        private void runOneCycle() {
            int used = sets[place];
            place = place + 1 < setCount ? place + 1 : 0;
            // Judged ahead of spendCycle: the heat that this cycle makes comes behind it.
            int judgement = judge(delayOf(longestOf(used), voltage, heat));
            countUses(used);
            spendCycle(Integer.bitCount(used));
            if (judgement == LOST) {
                lost++;
                return;
            }
            if (judgement == LATE) {
                complain();
            }
            work++;
        }

        private void countUses(int used) {
            for (int i = 0; i < paths; i++) {
                uses[i] += used >> i & 1;
            }
        }

        private void complain() {
            complaints++;
            if (governed) {
                windowComplaints++;
            }
            for (int i = 0; i < settings[REPLAY_CYCLES]; i++) {
                spendCycle(0);
            }
        }

        private void spendCycle(int pathsUsed) {
            spent++;
            if (governed) {
                windowCycles++;
            }
            energy += voltage * voltage / 10000;
            if (spent % 4 == 0) {
                changeHeat(Math.min(MOST_HEAT, LEAST_HEAT + pathsUsed * voltage / 100));
            }
        }

        private void changeHeat(int aim) {
            if (heat < aim) {
                heat++;
            } else if (heat > aim) {
                heat--;
            }
        }

        private void lookAtWindow() {
            int excess = windowComplaints - settings[AIMED_COMPLAINTS];
            if (excess < 0) {
                voltage = Math.max(LEAST_VOLTAGE, voltage - settings[VOLTAGE_STEP]);
                stepsDown++;
            } else {
                int steps = Math.min(excess, settings[MOST_STEPS_UP]);
                voltage = Math.min(MOST_VOLTAGE, voltage + steps * settings[VOLTAGE_STEP]);
                stepsUp += steps;
            }
            beginWindow();
        }
    }

    /** The text that is typed, and the sets that were read from it last. */
    private static final class WorkloadText {
        static final int NO_FAULT = -1;
        private static final int MOST_CHARACTERS = 60;
        private static final int NOTHING_YET = -1;
        /** Stands above every digit, so that no digit rises behind a "-". */
        private static final int NO_PATHS = 8;

        final char[] characters;
        int length;
        final int[] sets;
        int setCount;

        WorkloadText() {
            characters = new char[MOST_CHARACTERS];
            sets = new int[Circuit.MOST_SETS];
        }

        boolean append(char character) {
            if (length >= MOST_CHARACTERS) {
                return false;
            }
            characters[length] = character;
            length++;
            return true;
        }

        /** Returns the fault, or NO_FAULT; only then are the sets of use. */
        int read() {
            int last = NOTHING_YET;
            sets[0] = 0;
            setCount = 1;
            for (int i = 0; i < length; i++) {
                char c = characters[i];
                if (c == ',' && last != NOTHING_YET && setCount < Circuit.MOST_SETS) {
                    sets[setCount] = 0;
                    setCount++;
                    last = NOTHING_YET;
                } else if (c == '-' && last == NOTHING_YET) {
                    last = NO_PATHS;
                } else if (c >= '0' && c <= '7' && c - '0' > last) {
                    last = c - '0';
                    sets[setCount - 1] |= 1 << last;
                } else {
                    return i;
                }
            }
            return last == NOTHING_YET ? length : NO_FAULT;
        }
    }
}
