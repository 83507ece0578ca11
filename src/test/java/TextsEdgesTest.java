/** Each boundary that the section TEXTS and the promises 4, 10 and 11 name, by itself. */
public final class TextsEdgesTest {
    private static final String FIFTEEN = "-,-,-,-,-,-,-,-,-,-,-,-,-,-,-";
    private static final String SIXTEEN = FIFTEEN + ",0";
    /** 59 characters: six full sets, and five digits of a seventh one. */
    private static final String FIFTY_NINE = "01234567,01234567,01234567,01234567,01234567,01234567,01234";

    public static void main(String[] args) {
        Checks c = new Checks("TextsEdgesTest");
        atMost60Characters(c);
        emptyAtFirst(c);
        oneToSixteenSets(c);
        commasBetweenTwo(c);
        noPaths(c);
        oneOrMoreDigits(c);
        digitsFrom0To7(c);
        digitsThatRise(c);
        theFirstThatIsNotAllowed(c);
        theLengthIfItEndsTooEarly(c);
        theEmptyTextDoes(c);
        pathsAreMissedBehindFaults(c);
        theTextStays(c);
        nothingOfTheTextBeforeStays(c);
        itBeginsWithItsFirstSet(c);
        howManySets(c);
        faultsAreErrors(c);
        unknownPaths(c);
        anyCharacterIsTyped(c);
        typingWhenFull(c);
        clearingAnyLength(c);
        c.end();
    }

    private static void fault(Checks c, String text, int due) {
        c.due("the fault of '" + text + "'", -100 - Checks.take(Checks.with(8, "0"), text), due);
    }

    private static void taken(Checks c, String text, int... sets) {
        ShadowLatches x = Checks.with(8, "0");
        c.due("takeWorkload() of '" + text + "'", Checks.take(x, text), sets.length);
        for (int i = 0; i < sets.length; i++) {
            c.due("workload(" + i + ")", x.workload(i), sets[i]);
        }
        c.due("workload behind the last", x.workload(sets.length), Checks.NONE);
    }

    private static void atMost60Characters(Checks c) {
        c.sentence("TEXTS", "There is a text of at most 60 characters");
        ShadowLatches x = Checks.with(8, "0");
        Checks.retype(x, FIFTY_NINE);
        c.due("the length", x.count(25), 59);
        c.due("type of the sixtieth", x.type('5'), 60);
        c.due("the length", x.count(25), 60);
        c.due("type of one more", x.type('6'), Checks.FULL);
        c.due("the length", x.count(25), 60);
        c.due("takeWorkload()", x.takeWorkload(), 7);
        c.due("the sixtieth character is in it, no more", x.workload(6), 63);
    }

    private static void emptyAtFirst(Checks c) {
        c.sentence("TEXTS", "empty at first");
        c.due("count(25)", new ShadowLatches().count(25), 0);
        c.due("clearText()", new ShadowLatches().clearText(), 0);
        c.due("takeWorkload()", new ShadowLatches().takeWorkload(), -100);
        c.due("type('0')", new ShadowLatches().type('0'), 1);
    }

    private static void oneToSixteenSets(Checks c) {
        c.sentence("TEXTS", "A text of a workload is 1 to 16 sets");
        fault(c, "", 0);
        taken(c, "0", 1);
        taken(c, SIXTEEN, 0, 0, 0, 0, 0, 0, 0, 0, 0, 0, 0, 0, 0, 0, 0, 1);
        taken(c, SIXTEEN + "7", 0, 0, 0, 0, 0, 0, 0, 0, 0, 0, 0, 0, 0, 0, 0, 129);
        fault(c, SIXTEEN + ",0", 31);
        fault(c, SIXTEEN + ",", 31);
    }

    private static void commasBetweenTwo(Checks c) {
        c.sentence("TEXTS", "sets with \",\" between two");
        taken(c, "0,1", 1, 2);
        taken(c, "-,-", 0, 0);
        taken(c, "01", 3);
        fault(c, ",0", 0);
        fault(c, "0,,1", 2);
        fault(c, "0;1", 1);
        fault(c, "0 ,1", 1);
        fault(c, "0, 1", 2);
        fault(c, "0,", 2);
    }

    private static void noPaths(Checks c) {
        c.sentence("TEXTS", "\"-\" (no paths)");
        taken(c, "-", 0);
        taken(c, "0,-,7", 1, 0, 128);
        fault(c, "--", 1);
        fault(c, "-0", 1);
        fault(c, "-7", 1);
        fault(c, "0-", 1);
        fault(c, "7-", 1);
    }

    private static void oneOrMoreDigits(Checks c) {
        c.sentence("TEXTS", "or one or more digits");
        taken(c, "0", 1);
        taken(c, "7", 128);
        taken(c, "07", 129);
        taken(c, "01234567", 255);
        fault(c, "0,,", 2);
    }

    private static void digitsFrom0To7(Checks c) {
        c.sentence("TEXTS", "digits from 0 to 7");
        taken(c, "0", 1);
        taken(c, "7", 128);
        fault(c, "/", 0);
        fault(c, "8", 0);
        fault(c, "9", 0);
        fault(c, "0/", 1);
        fault(c, "08", 1);
        fault(c, "0,8", 2);
        // Other digits than those from '0' to '7', and characters whose low bits are those of a digit.
        fault(c, "\u0660", 0);
        fault(c, "\uff10", 0);
        fault(c, "\u0130", 0);
        fault(c, "\u8030", 0);
    }

    private static void digitsThatRise(Checks c) {
        c.sentence("TEXTS", "digits from 0 to 7 that rise");
        taken(c, "01", 3);
        taken(c, "67", 192);
        fault(c, "00", 1);
        fault(c, "77", 1);
        fault(c, "10", 1);
        fault(c, "76", 1);
        fault(c, "011", 2);
        fault(c, "01234566", 7);
        fault(c, "012345677", 8);
        taken(c, "7,0", 128, 1);
        taken(c, "7,7", 128, 128);
    }

    private static void theFirstThatIsNotAllowed(Checks c) {
        c.sentence("TEXTS", "The fault of the text is the index, from 0, of the first character that is not allowed at its place");
        fault(c, "x", 0);
        fault(c, "xy", 0);
        fault(c, "0x", 1);
        fault(c, "0x,y", 1);
        fault(c, "0,1,22,x", 5);
        fault(c, "0x,", 1);
        fault(c, FIFTY_NINE + "x", 59);
        fault(c, FIFTY_NINE + "4", 59);
        fault(c, FIFTY_NINE + "-", 59);
    }

    private static void theLengthIfItEndsTooEarly(Checks c) {
        c.sentence("TEXTS", "or the length of the text if it ends too early");
        fault(c, "0,", 2);
        fault(c, "-,", 2);
        fault(c, "07,1,", 5);
        fault(c, FIFTEEN + ",", 30);
        fault(c, FIFTY_NINE + ",", 60);
    }

    private static void theEmptyTextDoes(Checks c) {
        c.sentence("TEXTS", "(the empty text does)");
        fault(c, "", 0);
        ShadowLatches x = Checks.with(1, "0,-");
        x.clearText();
        c.due("takeWorkload() behind clearText()", x.takeWorkload(), -100);
        c.due("the workload that was", x.count(10), 2);
    }

    private static void pathsAreMissedBehindFaults(Checks c) {
        c.sentence("TEXTS", "(That a path is not there is found behind faults.)");
        ShadowLatches x = new ShadowLatches();
        c.due("1", Checks.take(x, "1"), Checks.UNKNOWN);
        c.due("1,", Checks.take(x, "1,"), -102);
        c.due("1x", Checks.take(x, "1x"), -101);
        c.due("7,7,7,0,8", Checks.take(x, "7,7,7,0,8"), -108);
        c.due("7,7,7,0,7", Checks.take(x, "7,7,7,0,7"), Checks.UNKNOWN);
    }

    private static void theTextStays(Checks c) {
        c.sentence("Promise 4", "Takes the workload of the text, which stays");
        ShadowLatches x = Checks.with(2, "0,1,-");
        c.due("the length", x.count(25), 5);
        x.layWorkload(1, 0);
        c.due("it can be taken again", x.takeWorkload(), 3);
        c.due("its second set", x.workload(1), 2);
        c.due("its third set", x.workload(2), 0);
        c.due("type behind it", x.type('x'), 6);
        c.due("a fault", x.takeWorkload(), -105);
        c.due("the text with the fault stays, too", x.count(25), 6);
    }

    private static void nothingOfTheTextBeforeStays(Checks c) {
        c.sentence("Promise 4", "Takes the workload of the text");
        ShadowLatches x = Checks.with(8, "01,23,45,67");
        c.due("takeWorkload() of another text", Checks.take(x, "-,7,-"), 3);
        c.due("workload(0)", x.workload(0), 0);
        c.due("workload(1)", x.workload(1), 128);
        c.due("workload(2)", x.workload(2), 0);
        c.due("workload(3)", x.workload(3), Checks.NONE);
        c.due("takeWorkload() of a text with a fault", Checks.take(x, "6,6,66"), -105);
        c.due("takeWorkload() of a text behind it", Checks.take(x, "0,-,0"), 3);
        c.due("workload(1) of it", x.workload(1), 0);
    }

    private static void itBeginsWithItsFirstSet(Checks c) {
        c.sentence("Promise 4", "it begins with its first set");
        ShadowLatches x = Checks.with(2, "0,1,-");
        x.run(2);
        c.due("the place", x.count(11), 2);
        c.due("takeWorkload() of the same", x.takeWorkload(), 3);
        c.due("the place", x.count(11), 0);
        x.run(2);
        c.due("takeWorkload() of a shorter one", Checks.take(x, "1"), 1);
        c.due("the place", x.count(11), 0);
    }

    private static void howManySets(Checks c) {
        c.sentence("Promise 4", "Returns how many sets it has");
        c.due("one", Checks.take(new ShadowLatches(), "-"), 1);
        c.due("fifteen", Checks.take(new ShadowLatches(), FIFTEEN), 15);
        c.due("sixteen", Checks.take(new ShadowLatches(), SIXTEEN), 16);
    }

    private static ShadowLatches busyWith(String text) {
        ShadowLatches x = Checks.busy();
        Checks.retype(x, text);
        return x;
    }

    private static void faultsAreErrors(Checks c) {
        c.sentence("Promise 4", "-100 minus the fault of the text if it has one (which is an error)");
        String[] texts = {"", "x", "0,", "0,1,-,012-", FIFTY_NINE + "4", FIFTY_NINE + ","};
        int[] due = {-100, -100, -102, -109, -159, -160};
        for (int i = 0; i < texts.length; i++) {
            String text = texts[i];
            c.changesNothing("takeWorkload() of '" + text + "'", () -> busyWith(text), ShadowLatches::takeWorkload, due[i]);
        }
    }

    private static void unknownPaths(Checks c) {
        c.sentence("Promise 4", "UNKNOWN if a path is not there");
        for (int paths = 1; paths <= 7; paths++) {
            char last = (char) ('0' + paths - 1);
            char next = (char) ('0' + paths);
            c.due("the last of " + paths, Checks.take(Checks.with(paths, "-"), "-," + last), 2);
            c.due("the next of " + paths, Checks.take(Checks.with(paths, "-"), "-," + next), Checks.UNKNOWN);
            c.due("both", Checks.take(Checks.with(paths, "-"), "-," + last + next), Checks.UNKNOWN);
        }
        c.due("the last of 8", Checks.take(Checks.with(8, "-"), "-,7"), 2);
        c.changesNothing("path 3 of 3, first", () -> busyWith("3,0,1"), ShadowLatches::takeWorkload, Checks.UNKNOWN);
        c.changesNothing("path 3 of 3, last", () -> busyWith("0,1,03"), ShadowLatches::takeWorkload, Checks.UNKNOWN);
        c.changesNothing("path 7 of 3", () -> busyWith("0,7,1"), ShadowLatches::takeWorkload, Checks.UNKNOWN);
    }

    private static void anyCharacterIsTyped(Checks c) {
        c.sentence("Promise 10", "- `character`: any character");
        ShadowLatches x = new ShadowLatches();
        char[] typed = {'0', (char) 0, (char) 65535, (char) 255, (char) 256, '\n', ' ', '-', ',', '8'};
        for (int i = 0; i < typed.length; i++) {
            c.due("type of " + (int) typed[i], x.type(typed[i]), i + 1);
        }
        c.due("takeWorkload()", x.takeWorkload(), -101);
    }

    private static ShadowLatches busyAndFull() {
        return busyWith("-,-,-,-,-,-,-,-,-,-,-,-,-,-,-,-,-,-,-,-,-,-,-,-,-,-,-,-,-,-,");
    }

    private static void typingWhenFull(Checks c) {
        c.sentence("Promise 10", "Returns the length of the text then; FULL if it has 60 characters.");
        ShadowLatches x = new ShadowLatches();
        for (int length = 1; length <= 60; length++) {
            c.due("type", x.type('-'), length);
        }
        c.due("type of the sixty-first", x.type('-'), Checks.FULL);
        c.due("clearText()", x.clearText(), 60);
        c.due("type behind clearText()", x.type('-'), 1);
        c.due("takeWorkload()", x.takeWorkload(), 1);
        for (char character : new char[] {'0', ',', (char) 0, (char) 65535}) {
            c.changesNothing("type when full", TextsEdgesTest::busyAndFull, y -> y.type(character), Checks.FULL);
        }
    }

    private static void clearingAnyLength(Checks c) {
        c.sentence("Promise 11", "Returns the length that it had.");
        ShadowLatches x = new ShadowLatches();
        c.due("of an empty text", x.clearText(), 0);
        c.due("count(25)", x.count(25), 0);
        x.type('0');
        c.due("of one character", x.clearText(), 1);
        c.due("again", x.clearText(), 0);
        Checks.retype(x, FIFTY_NINE);
        c.due("of 59 characters", x.clearText(), 59);
        Checks.retype(x, FIFTY_NINE + "7");
        c.due("of 60 characters", x.clearText(), 60);
        c.due("count(25)", x.count(25), 0);
        c.due("no act is recorded", x.count(24), 0);
    }
}
