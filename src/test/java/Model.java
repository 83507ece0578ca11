import java.util.ArrayDeque;
import java.util.ArrayList;
import java.util.List;
import java.util.regex.Pattern;

/**
 * The document once more, written by its words and otherwise than the program (lists, copies of whole states,
 * each path judged by itself, regular expressions for texts), so that ModelTest can hold one against the other.
 */
final class Model {
    private static final String SET = "(-|(?=[0-7])0?1?2?3?4?5?6?7?)";
    private static final Pattern WORKLOAD = Pattern.compile(SET + "(," + SET + "){0,15}");
    private static final Pattern BEGINNING = Pattern.compile("(" + SET + ",){0,15}" + SET + "?");
    private static final int[][] RANGES = {{50, 1000}, {0, 200}, {1, 20}, {10, 500}, {0, 100}, {1, 50}, {1, 10}};

    private static final class State {
        List<Integer> lengths = new ArrayList<>(List.of(100));
        List<Long> uses = new ArrayList<>(List.of(0L));
        List<List<Integer>> workload = new ArrayList<>(List.of(List.of()));
        List<Integer> settings = new ArrayList<>(List.of(200, 40, 5, 100, 2, 10, 4));
        int place = 0;
        int voltage = 1000;
        int heat = 20;
        boolean on = false;
        long spent = 0;
        long work = 0;
        long complaints = 0;
        long lost = 0;
        long energy = 0;
        long lookedAt = 0;
        long complaintsAtLook = 0;
        long up = 0;
        long down = 0;

        State copy() {
            State s = new State();
            s.lengths = new ArrayList<>(lengths);
            s.uses = new ArrayList<>(uses);
            s.workload = new ArrayList<>(workload);
            s.settings = new ArrayList<>(settings);
            s.place = place;
            s.voltage = voltage;
            s.heat = heat;
            s.on = on;
            s.spent = spent;
            s.work = work;
            s.complaints = complaints;
            s.lost = lost;
            s.energy = energy;
            s.lookedAt = lookedAt;
            s.complaintsAtLook = complaintsAtLook;
            s.up = up;
            s.down = down;
            return s;
        }
    }

    private State s = new State();
    private State snapshot = null;
    private final ArrayDeque<State> history = new ArrayDeque<>();
    private String text = "";

    private void act() {
        history.addLast(s.copy());
        if (history.size() > 4) {
            history.removeFirst();
        }
    }

    long addPath(int length) {
        if (length < 10 || length > 400) {
            return -2;
        }
        if (s.lengths.size() == 8) {
            return -3;
        }
        act();
        s.lengths.add(length);
        s.uses.add(0L);
        return s.lengths.size() - 1;
    }

    long setLength(int path, int length) {
        if (path < 0 || path >= s.lengths.size()) {
            return -1;
        }
        if (length < 10 || length > 400) {
            return -2;
        }
        if (s.lengths.get(path) == length) {
            return -5;
        }
        act();
        return s.lengths.set(path, length);
    }

    long takeWorkload() {
        if (!WORKLOAD.matcher(text).matches()) {
            int good = 0;
            while (good < text.length() && BEGINNING.matcher(text.substring(0, good + 1)).matches()) {
                good++;
            }
            return -100 - good;
        }
        List<List<Integer>> sets = new ArrayList<>();
        for (String part : text.split(",")) {
            List<Integer> set = new ArrayList<>();
            for (char c : part.toCharArray()) {
                if (c != '-') {
                    set.add(Character.getNumericValue(c));
                }
            }
            sets.add(set);
        }
        for (List<Integer> set : sets) {
            for (int path : set) {
                if (path >= s.lengths.size()) {
                    return -1;
                }
            }
        }
        act();
        s.workload = sets;
        s.place = 0;
        return sets.size();
    }

    long layWorkload(int sets, int seed) {
        if (sets < 1 || sets > 16 || seed < 0 || seed > 9999) {
            return -2;
        }
        act();
        s.workload = new ArrayList<>();
        s.place = 0;
        long together = 0;
        long x = seed;
        for (int i = 0; i < sets; i++) {
            x = (421 * x + 1663) % 10000;
            long bits = x / 16 % Math.round(Math.pow(2, s.lengths.size()));
            List<Integer> set = new ArrayList<>();
            for (int path = 0; bits > 0; path++) {
                if (bits % 2 == 1) {
                    set.add(path);
                }
                bits /= 2;
            }
            together += set.size();
            s.workload.add(set);
        }
        return together;
    }

    long setVoltage(int voltage) {
        if (voltage < 500 || voltage > 1200) {
            return -2;
        }
        if (voltage == s.voltage) {
            return -5;
        }
        act();
        int before = s.voltage;
        s.voltage = voltage;
        return before;
    }

    long govern(boolean on) {
        if (on == s.on) {
            return -5;
        }
        act();
        s.on = on;
        s.lookedAt = s.spent;
        s.complaintsAtLook = s.complaints;
        return s.voltage;
    }

    long set(int which, int value) {
        if (which < 0 || which > 6 || value < RANGES[which][0] || value > RANGES[which][1]) {
            return -2;
        }
        if (s.settings.get(which) == value) {
            return -5;
        }
        act();
        return s.settings.set(which, value);
    }

    long run(int cycles) {
        if (cycles < 1 || cycles > 2000) {
            return -2;
        }
        act();
        long before = s.complaints;
        go(s, cycles);
        return s.complaints - before;
    }

    private static int delayOf(int length, int voltage, int heat) {
        return length * 1000 / (voltage - 300) * (900 + heat * 5) / 1000;
    }

    private static int how(State s, int path, int voltage) {
        int delay = delayOf(s.lengths.get(path), voltage, s.heat);
        if (delay <= s.settings.get(0)) {
            return 0;
        }
        if (delay <= s.settings.get(0) + s.settings.get(1)) {
            return 1;
        }
        return 2;
    }

    private static void go(State s, int cycles) {
        for (int i = 0; i < cycles; i++) {
            List<Integer> used = s.workload.get(s.place);
            s.place = (s.place + 1) % s.workload.size();
            boolean late = false;
            boolean lost = false;
            for (int path : used) {
                int how = how(s, path, s.voltage);
                late = late || how == 1;
                lost = lost || how == 2;
                s.uses.set(path, s.uses.get(path) + 1);
            }
            spend(s, used.size());
            if (lost) {
                s.lost++;
            } else if (late) {
                s.complaints++;
                for (int r = s.settings.get(2); r > 0; r--) {
                    spend(s, 0);
                }
                s.work++;
            } else {
                s.work++;
            }
            if (s.on && s.spent - s.lookedAt >= s.settings.get(3)) {
                look(s);
            }
        }
    }

    private static void spend(State s, int paths) {
        s.spent++;
        s.energy += (long) s.voltage * s.voltage / 10000;
        if (s.spent % 4 == 0) {
            int aim = Math.min(120, 20 + paths * s.voltage / 100);
            s.heat += Integer.signum(aim - s.heat);
        }
    }

    private static void look(State s) {
        int c = (int) (s.complaints - s.complaintsAtLook);
        int aim = s.settings.get(4);
        int step = s.settings.get(5);
        if (c < aim) {
            s.down++;
            s.voltage = Math.max(500, s.voltage - step);
        }
        for (int i = 0; i < c - aim && i < s.settings.get(6); i++) {
            s.up++;
            s.voltage = Math.min(1200, s.voltage + step);
        }
        s.lookedAt = s.spent;
        s.complaintsAtLook = s.complaints;
    }

    long type(char character) {
        if (text.length() == 60) {
            return -3;
        }
        text += character;
        return text.length();
    }

    long clearText() {
        int had = text.length();
        text = "";
        return had;
    }

    long undo() {
        if (history.isEmpty()) {
            return -5;
        }
        s = history.removeLast();
        return history.size();
    }

    long keep() {
        snapshot = s.copy();
        return s.voltage;
    }

    long restore() {
        if (snapshot == null) {
            return -5;
        }
        act();
        s = snapshot.copy();
        return s.voltage;
    }

    long path(int path, int what) {
        if (path < 0 || path >= s.lengths.size()) {
            return -1;
        }
        switch (what) {
            case 0: return s.lengths.get(path);
            case 1: return delayOf(s.lengths.get(path), s.voltage, s.heat);
            case 2: return how(s, path, s.voltage);
            case 3: return s.uses.get(path);
            case 4: return s.workload.stream().filter(set -> set.contains(path)).count();
            default: return -2;
        }
    }

    long delay(int path, int voltage, int heat) {
        if (path < 0 || path >= s.lengths.size()) {
            return -1;
        }
        if (voltage < 500 || voltage > 1200 || heat < 20 || heat > 120) {
            return -2;
        }
        return delayOf(s.lengths.get(path), voltage, heat);
    }

    long workload(int place) {
        if (place < 0) {
            return -2;
        }
        if (place >= s.workload.size()) {
            return -5;
        }
        return s.workload.get(place).stream().mapToInt(path -> 1 << path).sum();
    }

    long least(boolean lost) {
        for (int voltage = 500; voltage <= 1200; voltage++) {
            boolean good = true;
            for (List<Integer> set : s.workload) {
                for (int path : set) {
                    good = good && how(s, path, voltage) <= (lost ? 1 : 0);
                }
            }
            if (good) {
                return voltage;
            }
        }
        return -5;
    }

    private State after(int voltage, int cycles) {
        State t = s.copy();
        t.on = false;
        t.voltage = voltage;
        go(t, cycles);
        return t;
    }

    long would(int voltage, int cycles, int what) {
        if (voltage < 500 || voltage > 1200 || cycles < 1 || cycles > 500 || what < 0 || what > 4) {
            return -2;
        }
        State t = after(voltage, cycles);
        long[] told = {t.complaints - s.complaints, t.lost - s.lost, t.energy - s.energy, t.spent - s.spent, t.heat};
        return told[what];
    }

    long best(int cycles) {
        if (cycles < 1 || cycles > 200) {
            return -2;
        }
        long best = -5;
        long leastEnergy = Long.MAX_VALUE;
        for (int voltage = 500; voltage <= 1200; voltage += 50) {
            State t = after(voltage, cycles);
            if (t.lost == s.lost && t.energy < leastEnergy) {
                best = voltage;
                leastEnergy = t.energy;
            }
        }
        return best;
    }

    long count(int what) {
        if (what >= 17 && what <= 23) {
            return s.settings.get(what - 17);
        }
        switch (what) {
            case 0: return s.voltage;
            case 1: return s.heat;
            case 2: return s.on ? 1 : 0;
            case 3: return s.spent;
            case 4: return s.work;
            case 5: return s.complaints;
            case 6: return s.lost;
            case 7: return s.energy / 1000;
            case 8: return s.on ? s.spent - s.lookedAt : 0;
            case 9: return s.on ? s.complaints - s.complaintsAtLook : 0;
            case 10: return s.workload.size();
            case 11: return s.place;
            case 12: return s.lengths.size();
            case 13: return pathsThatAre(1);
            case 14: return pathsThatAre(2);
            case 15: return s.up;
            case 16: return s.down;
            case 24: return history.size();
            case 25: return text.length();
            default: return -2;
        }
    }

    private long pathsThatAre(int how) {
        long set = 0;
        for (int path = 0; path < s.lengths.size(); path++) {
            if (how(s, path, s.voltage) == how) {
                set += 1L << path;
            }
        }
        return set;
    }
}
