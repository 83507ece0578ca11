import java.io.IOException;
import java.nio.charset.StandardCharsets;
import java.nio.file.Files;
import java.nio.file.Path;
import java.util.ArrayList;
import java.util.Arrays;
import java.util.List;
import java.util.function.Supplier;
import java.util.function.ToLongFunction;

/** Counts the answers of one test that are not as due; a test ends by end(). */
final class Checks {
    static final int UNKNOWN = -1;
    static final int BAD_VALUE = -2;
    static final int FULL = -3;
    static final int NOT_POSSIBLE = -4;
    static final int NONE = -5;
    /** An object answers this many calls as promised; no test may ask more of one. */
    static final int MOST_CALLS = 512;

    private static final Path DOCUMENT = Path.of("../shared/DOC.md");
    private static final List<String> SECTIONS = List.of("PATHS", "CYCLES", "THE GOVERNOR", "TEXTS", "HISTORY", "ERRORS");

    private static final String[] SIDES = {"all that is told", "the history", "the snapshot"};

    private final String test;
    private String about = "";
    private int asked;
    private int wrong;

    Checks(String test) {
        this.test = test;
    }

    /** The checks that follow are about these words alone, which must stand in that section of the document. */
    void sentence(String section, String words) {
        about = " [" + section + ": " + words + "]";
        isTrue("that the words stand in the document", sectionOf(section).contains(words));
    }

    private static String sectionOf(String section) {
        List<String> lines;
        try {
            lines = Files.readAllLines(DOCUMENT, StandardCharsets.UTF_8);
        } catch (IOException e) {
            return "";
        }
        StringBuilder found = new StringBuilder();
        boolean inside = false;
        for (String line : lines) {
            boolean heading = line.startsWith("## ");
            if (heading || SECTIONS.contains(line)) {
                String name = heading ? line.substring(3) : line;
                inside = name.equals(section) || name.startsWith(section + ":");
            } else if (inside) {
                found.append(line).append('\n');
            }
        }
        return found.toString();
    }

    void due(String what, long got, long want) {
        asked++;
        if (got != want) {
            wrong++;
            System.out.println(test + about + ": " + what + " answered " + got + ", due is " + want);
        }
    }

    void isTrue(String what, boolean holds) {
        asked++;
        if (!holds) {
            wrong++;
            System.out.println(test + about + ": " + what + " does not hold");
        }
    }

    /** Checks that a call that was refused, or answered NONE, left what is told as it was. */
    void unchanged(String what, long[] before, ShadowLatches x) {
        long[] after = everything(x);
        for (int i = 0; i < before.length; i++) {
            due(what + ", told value " + i, after[i], before[i]);
        }
    }

    /**
     * Checks that a call answers as due and changes nothing: an object with the call and one without it are the same in
     * what they tell, in their text and what they do next, in their history, and in their snapshot.
     */
    void changesNothing(String what, Supplier<ShadowLatches> made, ToLongFunction<ShadowLatches> call, long due) {
        for (int side = 0; side < 3; side++) {
            ShadowLatches asked = made.get();
            ShadowLatches twin = made.get();
            due(what, call.applyAsLong(asked), due);
            isTrue(what + " leaves " + SIDES[side] + " as it was", Arrays.equals(side(asked, side), side(twin, side)));
        }
    }

    private static long[] side(ShadowLatches x, int side) {
        List<Long> told = new ArrayList<>();
        if (side == 0) {
            tell(x, told);
            told.add((long) x.takeWorkload());
            tell(x, told);
            told.add((long) x.run(60));
            tell(x, told);
        } else if (side == 1) {
            for (int i = 0; i < 5; i++) {
                told.add((long) x.undo());
                tell(x, told);
            }
        } else {
            told.add((long) x.restore());
            tell(x, told);
        }
        return told.stream().mapToLong(Long::longValue).toArray();
    }

    private static void tell(ShadowLatches x, List<Long> told) {
        int paths = x.count(12);
        int sets = x.count(10);
        for (int what = 0; what < 26; what++) {
            told.add((long) x.count(what));
        }
        for (int path = 0; path < paths; path++) {
            told.add((long) x.path(path, 0));
            told.add((long) x.path(path, 3));
        }
        for (int place = 0; place < sets; place++) {
            told.add((long) x.workload(place));
        }
    }

    void end() {
        System.out.println(test + ": " + (asked - wrong) + " of " + asked + " as due");
        if (wrong != 0) {
            System.exit(1);
        }
    }

    /** All that an object tells without arguments to choose: counts, paths, the workload. */
    static long[] everything(ShadowLatches x) {
        long[] told = new long[26 + 8 * 5 + 16];
        int next = 0;
        for (int what = 0; what < 26; what++) {
            told[next++] = x.count(what);
        }
        for (int path = 0; path < 8; path++) {
            for (int what = 0; what < 5; what++) {
                told[next++] = x.path(path, what);
            }
        }
        for (int place = 0; place < 16; place++) {
            told[next++] = x.workload(place);
        }
        return told;
    }

    static void retype(ShadowLatches x, String text) {
        x.clearText();
        for (int i = 0; i < text.length(); i++) {
            x.type(text.charAt(i));
        }
    }

    static int take(ShadowLatches x, String text) {
        retype(x, text);
        return x.takeWorkload();
    }

    /** A new object with so many paths of the length 100, and the workload of the text. */
    static ShadowLatches with(int paths, String text) {
        ShadowLatches x = new ShadowLatches();
        for (int i = 1; i < paths; i++) {
            x.addPath(100);
        }
        take(x, text);
        return x;
    }

    /** One path of the length 100 that is used in each cycle, right at no voltage and lost below some 700. */
    static ShadowLatches late() {
        ShadowLatches x = with(1, "0");
        x.set(0, 50);
        x.set(1, 200);
        return x;
    }

    /** One path that is used in each cycle and lost at each voltage. */
    static ShadowLatches lost() {
        ShadowLatches x = with(1, "0");
        x.setLength(0, 400);
        return x;
    }

    /** A new object with a snapshot, and no history. */
    static ShadowLatches kept() {
        ShadowLatches x = new ShadowLatches();
        x.keep();
        return x;
    }

    /** Three paths in the middle of work: a window half over, a text, a snapshot, four states of history, none the same. */
    static ShadowLatches busy() {
        ShadowLatches x = with(3, "0,12,-,01");
        x.setLength(1, 120);
        x.setLength(2, 60);
        x.set(0, 150);
        x.set(1, 60);
        x.set(2, 3);
        x.set(3, 40);
        x.govern(true);
        x.run(50);
        x.set(4, 100);
        x.run(40);
        x.set(4, 2);
        x.run(11);
        x.keep();
        x.setVoltage(800);
        x.run(5);
        x.setVoltage(940);
        x.run(5);
        retype(x, "1,02");
        return x;
    }
}
