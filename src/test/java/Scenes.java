/** Benches in states from which the edges are tried; each call makes a new one in the same way. */
final class Scenes {
    private Scenes() {
    }

    /**
     * a + b | (c + d) with a full history, a snapshot, two readings, d open and c + d folded. Parts:
     * 0 a, 1 b, 2 c, 3 d, 4 c+d, 5 b|(c+d), 6 the whole. No e and no f.
     */
    static LadderBench rich() {
        LadderBench bench = Check.benchOf("a+b|(c+d)");
        Check.command(bench, "set b 20");
        bench.note(1);
        bench.keep();
        Check.command(bench, "source 9");
        Check.command(bench, "open d");
        bench.note(2);
        bench.fold(4);
        return bench;
    }

    /** The rich one with another text. */
    static LadderBench richWith(String text) {
        LadderBench bench = rich();
        Check.write(bench, text);
        return bench;
    }

    /** The rich one with all parts folded. */
    static LadderBench foldedWhole() {
        LadderBench bench = rich();
        bench.foldAll(false);
        return bench;
    }

    /** One arm, whose readings are the voltages of the source: 1 to a number of them are noted. */
    static LadderBench noted(int readings) {
        LadderBench bench = Check.benchOf("a");
        for (int volts = 1; volts <= readings; volts++) {
            Check.command(bench, "source " + volts);
            bench.note(0);
        }
        return bench;
    }

    /** A network whose arms are as their commands say. */
    static LadderBench after(String network, String... commands) {
        LadderBench bench = Check.benchOf(network);
        for (String command : commands) {
            Check.command(bench, command);
        }
        return bench;
    }
}
