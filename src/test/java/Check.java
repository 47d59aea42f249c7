/** Counts what is due and what is not, for the tests of the project. */
final class Check {
    private int right = 0;
    private int wrong = 0;

    void due(String call, long got, long want) {
        if (got == want) {
            right++;
        } else {
            wrong++;
            System.out.println(call + " answered " + got + ", due is " + want);
        }
    }

    void dueText(String call, String got, String want) {
        if (got.equals(want)) {
            right++;
        } else {
            wrong++;
            System.out.println(call + "\n  told " + got + "\n  due  " + want);
        }
    }

    /** A fraction that is told as two numbers. */
    void dueFraction(String call, long gotUpper, long gotLower, long upper, long lower) {
        due(call + " upper", gotUpper, upper);
        due(call + " lower", gotLower, lower);
    }

    void finish(String name) {
        System.out.println(name + ": " + right + " answers as due, " + wrong + " not");
        if (wrong != 0) {
            System.exit(1);
        }
    }

    static void write(LadderBench bench, String text) {
        bench.clearText();
        for (int i = 0; i < text.length(); i++) {
            bench.type(text.charAt(i));
        }
    }

    static int read(LadderBench bench, String network) {
        write(bench, network);
        return bench.readNetwork();
    }

    static int command(LadderBench bench, String command) {
        write(bench, command);
        return bench.perform();
    }

    /** A new bench with this network. */
    static LadderBench benchOf(String network) {
        LadderBench bench = new LadderBench();
        read(bench, network);
        return bench;
    }
}
