/** The example of README.md: ReadmeTest holds the two against each other. */
public final class Example {
    public static void main(String[] args) {
        ShadowLatches circuit = new ShadowLatches();
        tell("the second path has the number", circuit.addPath(130));
        for (char c : "0,01,-".toCharArray()) {
            circuit.type(c);
        }
        tell("sets of the workload", circuit.takeWorkload());
        tell("voltage at first", circuit.govern(true));
        tell("complaints in 3000 cycles", circuit.run(1500) + circuit.run(1500));
        tell("voltage then", circuit.count(0));
        tell("least voltage without a late path", circuit.least(false));
        tell("energy of 100 more cycles at 900", circuit.would(900, 100, 2));
        int answer = circuit.setVoltage(1300);
        if (answer == ShadowLatches.BAD_VALUE) {
            tell("refused with", answer);
        }
        tell("states left behind an undo of 1500 cycles", circuit.undo());
        tell("cycles spent with replays", circuit.count(3));
    }

    private static void tell(String what, int number) {
        System.out.println(what + ": " + number);
    }
}
