/** Promises 13 to 24: what is told. */
public final class TellingTest {
    private static final Check CHECK = new Check();
    private static final String NETWORK = "a+b|(c+d)";
    private static final int FAR = Integer.MAX_VALUE;

    public static void main(String[] args) {
        part();
        arm();
        resistance();
        folded();
        voltage();
        reading();
        lossAndWorst();
        noted();
        solve();
        solveSeveral();
        solveErrors();
        fault();
        faultErrors();
        count();
        wrongParts();
        CHECK.finish("TellingTest");
    }

    private static void part() {
        LadderBench bench = Check.benchOf(NETWORK);
        int[][] due = {
            {0, 0, 1, 6, 'a', 1, 0, -4}, {0, 0, 1, 5, 'b', 1, 0, -4}, {0, 0, 1, 4, 'c', 1, 0, -4},
            {0, 0, 1, 4, 'd', 1, 0, -4}, {1, 2, 0, 5, -4, 2, 1, 2}, {2, 2, 0, 6, -4, 3, 0, 1},
            {1, 2, 0, -4, -4, 4, 0, 0}};
        for (int part = 0; part < due.length; part++) {
            for (int what = 0; what <= 7; what++) {
                CHECK.due("13: part(" + part + ", " + what + ")", bench.part(part, what), due[part][what]);
            }
        }
        bench.fold(4);
        CHECK.due("13: is folded", bench.part(4, 2), 1);
        CHECK.due("13: cannot be folded now that it is", bench.part(4, 6), 0);
        CHECK.due("13: the next can", bench.part(5, 6), 1);
        CHECK.due("13: not the one around", bench.part(6, 6), 0);
        CHECK.due("13: what -1", bench.part(4, -1), LadderBench.BAD_VALUE);
        CHECK.due("13: what 8", bench.part(4, 8), LadderBench.BAD_VALUE);
        CHECK.due("13: both wrong", bench.part(7, 8), LadderBench.UNKNOWN);
        CHECK.due("13: part -1", bench.part(-1, 0), LadderBench.UNKNOWN);
        LadderBench six = Check.benchOf("a|b|c|d|e|f");
        CHECK.due("13: six parts", six.part(6, 1), 6);
        CHECK.due("13: six arms", six.part(6, 5), 6);
    }

    private static void arm() {
        LadderBench bench = Check.benchOf("c+(f|a)");
        CHECK.due("14: value", bench.arm('f', 0), 10);
        CHECK.due("14: state", bench.arm('f', 1), 0);
        CHECK.due("14: part of f", bench.arm('f', 2), 1);
        CHECK.due("14: part of a", bench.arm('a', 2), 2);
        CHECK.due("14: part of c", bench.arm('c', 2), 0);
        CHECK.due("14: no b", bench.arm('b', 0), LadderBench.UNKNOWN);
        CHECK.due("14: no g", bench.arm('g', 0), LadderBench.UNKNOWN);
        CHECK.due("14: no `", bench.arm('`', 0), LadderBench.UNKNOWN);
        CHECK.due("14: no A", bench.arm('A', 0), LadderBench.UNKNOWN);
        CHECK.due("14: no 0", bench.arm(0, 0), LadderBench.UNKNOWN);
        CHECK.due("14: no least", bench.arm(Integer.MIN_VALUE, 9), LadderBench.UNKNOWN);
        CHECK.due("14: what -1", bench.arm('f', -1), LadderBench.BAD_VALUE);
        CHECK.due("14: what 3", bench.arm('f', 3), LadderBench.BAD_VALUE);
        CHECK.due("14: both wrong", bench.arm('b', 3), LadderBench.UNKNOWN);
    }

    private static void ohms(LadderBench bench, int part, long upper, long lower) {
        CHECK.dueFraction("15: resistance(" + part + ")",
                bench.resistance(part, 0), bench.resistance(part, 1), upper, lower);
    }

    private static void resistance() {
        LadderBench bench = Check.benchOf(NETWORK);
        ohms(bench, 0, 10, 1);
        ohms(bench, 4, 20, 1);
        ohms(bench, 5, 20, 3);
        ohms(bench, 6, 50, 3);
        Check.command(bench, "open c");
        ohms(bench, 2, 1, 0);
        ohms(bench, 4, 1, 0);
        ohms(bench, 5, 10, 1);
        ohms(bench, 6, 20, 1);
        Check.command(bench, "open b");
        ohms(bench, 5, 1, 0);
        ohms(bench, 6, 1, 0);
        Check.command(bench, "short b");
        ohms(bench, 1, 0, 1);
        ohms(bench, 5, 0, 1);
        ohms(bench, 6, 10, 1);
        Check.command(bench, "short a");
        ohms(bench, 6, 0, 1);
        Check.command(bench, "open a");
        ohms(bench, 6, 1, 0);
        LadderBench three = Check.benchOf("a|b|c");
        Check.command(three, "set a 2");
        Check.command(three, "set b 3");
        Check.command(three, "set c 6");
        ohms(three, 3, 1, 1);
    }

    private static void folded() {
        LadderBench bench = Check.benchOf(NETWORK);
        CHECK.dueFraction("16: an arm", bench.folded(1, 0), bench.folded(1, 1), 10, 1);
        CHECK.due("16: not folded", bench.folded(4, 0), LadderBench.NONE);
        CHECK.due("16: not folded", bench.folded(4, 1), LadderBench.NONE);
        CHECK.due("16: wrong ahead of none", bench.folded(4, 2), LadderBench.BAD_VALUE);
        bench.fold(4);
        bench.fold(5);
        CHECK.dueFraction("16: folded(5)", bench.folded(5, 0), bench.folded(5, 1), 20, 3);
        CHECK.due("16: not the whole", bench.folded(6, 0), LadderBench.NONE);
        Check.command(bench, "open a");
        CHECK.dueFraction("16: open", bench.folded(0, 0), bench.folded(0, 1), 1, 0);
        CHECK.due("16: unfolded", bench.folded(5, 0), LadderBench.NONE);
    }

    private static void volts(LadderBench bench, int part, long upper, long lower) {
        CHECK.dueFraction("17: voltage(" + part + ")",
                bench.voltage(part, 0), bench.voltage(part, 1), upper, lower);
    }

    private static void voltage() {
        LadderBench bench = Check.benchOf(NETWORK);
        volts(bench, 6, 12, 1);
        volts(bench, 0, 36, 5);
        volts(bench, 1, 24, 5);
        volts(bench, 5, 24, 5);
        volts(bench, 4, 24, 5);
        volts(bench, 2, 12, 5);
        Check.command(bench, "open c");
        volts(bench, 0, 6, 1);
        volts(bench, 2, 6, 1);
        volts(bench, 3, 0, 1);
        Check.command(bench, "open d");
        volts(bench, 2, 3, 1);
        Check.command(bench, "open a");
        volts(bench, 0, 12, 1);
        volts(bench, 5, 0, 1);
        volts(bench, 2, 0, 1);
        Check.command(bench, "open b");
        volts(bench, 0, 6, 1);
        volts(bench, 1, 6, 1);
        volts(bench, 2, 3, 1);
        LadderBench dead = Check.benchOf("a|b+c");
        Check.command(dead, "short a");
        Check.command(dead, "short c");
        volts(dead, 4, 12, 1);
        volts(dead, 2, 0, 1);
        volts(dead, 1, 0, 1);
        volts(dead, 3, 0, 1);
        LadderBench across = Check.benchOf("a|b");
        Check.command(across, "short a");
        volts(across, 0, 12, 1);
        volts(across, 1, 12, 1);
        LadderBench three = Check.benchOf("a+b+c");
        Check.command(three, "open a");
        Check.command(three, "open b");
        Check.command(three, "open c");
        volts(three, 2, 4, 1);
    }

    private static void told(LadderBench bench, int part, long upper, long lower) {
        CHECK.dueFraction("18: reading(" + part + ")",
                bench.reading(part, 0), bench.reading(part, 1), upper, lower);
    }

    private static void reading() {
        LadderBench bench = Check.benchOf(NETWORK);
        told(bench, 6, 12, 1);
        told(bench, 0, 90, 13);
        told(bench, 1, 60, 13);
        told(bench, 4, 60, 13);
        told(bench, 5, 60, 13);
        told(bench, 2, 120, 53);
        told(bench, 3, 120, 53);
        CHECK.due("18: the meter goes again", bench.resistance(6, 0), 50);
        Check.command(bench, "meter 1");
        told(bench, 0, 36, 25);
        LadderBench open = Check.benchOf("a+b");
        Check.command(open, "open a");
        told(open, 0, 120, 11);
        told(open, 1, 0, 1);
        Check.command(open, "open b");
        volts(open, 0, 6, 1);
        told(open, 0, 0, 1);
        Check.command(open, "short b");
        told(open, 0, 12, 1);
        told(open, 1, 0, 1);
        LadderBench dead = Check.benchOf("a+b");
        Check.command(dead, "short a");
        Check.command(dead, "short b");
        told(dead, 0, 0, 1);
        told(dead, 2, 12, 1);
    }

    private static void lossAndWorst() {
        LadderBench bench = Check.benchOf(NETWORK);
        int[] due = {38, 38, 56, 56, 38, 38, 0};
        for (int part = 0; part < due.length; part++) {
            CHECK.due("19: loss(" + part + ")", bench.loss(part), due[part]);
        }
        CHECK.due("23: worst", bench.worst(), 2);
        Check.command(bench, "set b 1");
        // b has 1 ohm in parallel with 10 and 20: 100 / (100 + 20 / 23), so 8; c has 10 beside 10 + 10/11.
        CHECK.due("19: loss(1)", bench.loss(1), 8);
        CHECK.due("19: loss(2)", bench.loss(2), 49);
        LadderBench open = Check.benchOf("a+b");
        Check.command(open, "open a");
        CHECK.due("19: no voltage", open.loss(1), 0);
        CHECK.due("19: 1 of 11", open.loss(0), 90);
        CHECK.due("23: the open one", open.worst(), 0);
        Check.command(open, "open b");
        CHECK.due("19: all is lost", open.loss(1), 1000);
        CHECK.due("23: the lowest of two", open.worst(), 0);
        LadderBench across = Check.benchOf("a|b");
        CHECK.due("23: none loses", across.worst(), 0);
        LadderBench second = Check.benchOf("a+b");
        Check.command(second, "short a");
        CHECK.due("23: nothing is lost", second.worst(), 0);
        Check.command(second, "open b");
        CHECK.due("23: b is open, a is shorted", second.worst(), 0);
        Check.command(second, "mend a");
        CHECK.due("23: b alone loses", second.worst(), 1);
        CHECK.due("23: no network", new LadderBench().worst(), LadderBench.NONE);
    }

    private static void noted() {
        LadderBench bench = Check.benchOf(NETWORK);
        CHECK.due("20: none", bench.noted(0, 0), LadderBench.NONE);
        bench.note(0);
        bench.note(0);
        bench.note(2);
        CHECK.due("20: upper", bench.noted(0, 0), 90);
        CHECK.due("20: lower", bench.noted(0, 1), 13);
        CHECK.due("20: times", bench.noted(0, 2), 2);
        CHECK.due("20: the next", bench.noted(1, 0), 120);
        CHECK.due("20: not so many", bench.noted(2, 0), LadderBench.NONE);
        CHECK.due("20: far", bench.noted(FAR, 2), LadderBench.NONE);
        CHECK.due("20: negative", bench.noted(-1, 0), LadderBench.BAD_VALUE);
        CHECK.due("20: what 3", bench.noted(0, 3), LadderBench.BAD_VALUE);
        CHECK.due("20: what -1", bench.noted(0, -1), LadderBench.BAD_VALUE);
        CHECK.due("20: wrong ahead of none", bench.noted(9, 3), LadderBench.BAD_VALUE);
    }

    /** What is due: no such resistance, or its upper and lower number. */
    private static void one(LadderBench bench, char letter, int upper, int lower, int dueUpper, int dueLower) {
        String call = "21: solve(" + letter + ", " + upper + ", " + lower + ")";
        CHECK.due(call, bench.solve(letter, upper, lower, 0), 1);
        CHECK.dueFraction(call, bench.solve(letter, upper, lower, 1),
                bench.solve(letter, upper, lower, 2), dueUpper, dueLower);
    }

    private static void notOne(LadderBench bench, char letter, int upper, int lower, int due) {
        String call = "21: solve(" + letter + ", " + upper + ", " + lower + ")";
        CHECK.due(call, bench.solve(letter, upper, lower, 0), due);
        CHECK.due(call, bench.solve(letter, upper, lower, 1), LadderBench.NONE);
        CHECK.due(call, bench.solve(letter, upper, lower, 2), LadderBench.NONE);
    }

    private static void solve() {
        LadderBench bench = Check.benchOf(NETWORK);
        one(bench, 'c', 50, 3, 10, 1);
        one(bench, 'c', 750, 45, 10, 1);
        one(bench, 'c', 15, 1, 0, 1);
        one(bench, 'c', 31, 2, 20, 9);
        notOne(bench, 'c', 14, 1, 0);
        notOne(bench, 'c', 20, 1, 0);
        notOne(bench, 'c', 21, 1, 0);
        notOne(bench, 'c', 10, 1, 0);
        notOne(bench, 'c', 0, 1, 0);
        one(bench, 'a', 20, 3, 0, 1);
        one(bench, 'a', 50, 3, 10, 1);
        one(bench, 'a', 9999, 1, 29977, 3);
        notOne(bench, 'a', 6, 1, 0);
        one(bench, 'b', 10, 1, 0, 1);
        one(bench, 'b', 29, 1, 380, 1);
        notOne(bench, 'b', 30, 1, 0);
        Check.command(bench, "open c");
        one(bench, 'c', 50, 3, 10, 1);
        Check.command(bench, "set c 77");
        one(bench, 'c', 50, 3, 10, 1);
        CHECK.due("21: changes nothing", bench.arm('c', 1), 1);
        one(Check.benchOf("a"), 'a', 34, 4, 17, 2);
        one(Check.benchOf("a"), 'a', 0, 99, 0, 1);
    }

    private static void solveSeveral() {
        LadderBench bench = Check.benchOf(NETWORK);
        Check.command(bench, "open d");
        notOne(bench, 'c', 20, 1, 2);
        notOne(bench, 'c', 40, 2, 2);
        notOne(bench, 'c', 50, 3, 0);
        one(bench, 'b', 20, 1, 10, 1);
        one(bench, 'd', 50, 3, 10, 1);
        Check.command(bench, "short b");
        notOne(bench, 'c', 10, 1, 2);
        notOne(bench, 'd', 10, 1, 2);
        notOne(bench, 'd', 9, 1, 0);
        Check.command(bench, "open a");
        notOne(bench, 'b', 10, 1, 0);
        notOne(bench, 'd', 10, 1, 0);
        one(bench, 'a', 5, 1, 5, 1);
        LadderBench deep = Check.benchOf("a|(b+c)");
        Check.command(deep, "open b");
        notOne(deep, 'c', 10, 1, 2);
        Check.command(deep, "open a");
        notOne(deep, 'c', 10, 1, 0);
    }

    private static void solveErrors() {
        LadderBench bench = Check.benchOf(NETWORK);
        CHECK.due("21: no e", bench.solve('e', -1, 0, 9), LadderBench.UNKNOWN);
        CHECK.due("21: no z", bench.solve('z', 1, 1, 0), LadderBench.UNKNOWN);
        CHECK.due("21: upper -1", bench.solve('a', -1, 1, 0), LadderBench.BAD_VALUE);
        CHECK.due("21: upper 10000", bench.solve('a', 10000, 1, 0), LadderBench.BAD_VALUE);
        CHECK.due("21: lower 0", bench.solve('a', 1, 0, 0), LadderBench.BAD_VALUE);
        CHECK.due("21: lower 100", bench.solve('a', 1, 100, 0), LadderBench.BAD_VALUE);
        CHECK.due("21: lower 99", bench.solve('a', 9999, 99, 0), 1);
        CHECK.due("21: what -1", bench.solve('a', 1, 1, -1), LadderBench.BAD_VALUE);
        CHECK.due("21: what 3", bench.solve('a', 1, 1, 3), LadderBench.BAD_VALUE);
        CHECK.due("21: no network", new LadderBench().solve('a', 1, 1, 0), LadderBench.UNKNOWN);
    }

    /** The faults in their order, and NONE behind them. */
    private static void faults(LadderBench bench, int upper, int lower, int... due) {
        String call = "22: fault(" + upper + ", " + lower + ")";
        for (int number = 0; number < due.length; number++) {
            CHECK.due(call + " " + number, bench.fault(upper, lower, number), due[number]);
        }
        CHECK.due(call + " behind", bench.fault(upper, lower, due.length), LadderBench.NONE);
        CHECK.due(call + " far", bench.fault(upper, lower, FAR), LadderBench.NONE);
    }

    private static void fault() {
        LadderBench bench = Check.benchOf(NETWORK);
        faults(bench, 20, 1, 21, 31);
        faults(bench, 40, 2, 21, 31);
        faults(bench, 1, 0, 1);
        faults(bench, 9999, 0, 1);
        faults(bench, 20, 3, 2);
        faults(bench, 10, 1, 12);
        faults(bench, 15, 1, 22, 32);
        faults(bench, 30, 1, 11);
        faults(bench, 0, 1);
        faults(bench, 50, 3);
        CHECK.due("22: changes nothing", bench.count(10), 0);
        Check.command(bench, "open c");
        faults(bench, 20, 1, 31, 32);
        faults(bench, 1, 0, 1, 11);
        Check.command(bench, "short b");
        faults(bench, 10, 1, 31, 32);
        faults(bench, 0, 7, 2);
        LadderBench arm = Check.benchOf("f");
        faults(arm, 1, 0, 51);
        faults(arm, 0, 1, 52);
        LadderBench order = Check.benchOf("b+a");
        faults(order, 5, 0, 1, 11);
        faults(order, 10, 1, 2, 12);
        Check.command(order, "open a");
        faults(order, 1, 0, 11, 12);
    }

    private static void faultErrors() {
        LadderBench bench = Check.benchOf(NETWORK);
        CHECK.due("22: upper -1", bench.fault(-1, 1, 0), LadderBench.BAD_VALUE);
        CHECK.due("22: upper 10000", bench.fault(10000, 1, 0), LadderBench.BAD_VALUE);
        CHECK.due("22: lower -1", bench.fault(1, -1, 0), LadderBench.BAD_VALUE);
        CHECK.due("22: lower 100", bench.fault(1, 100, 0), LadderBench.BAD_VALUE);
        CHECK.due("22: both 0", bench.fault(0, 0, 0), LadderBench.BAD_VALUE);
        CHECK.due("22: number -1", bench.fault(1, 1, -1), LadderBench.BAD_VALUE);
        CHECK.due("22: at the edge", bench.fault(9999, 99, 0), LadderBench.NONE);
        LadderBench empty = new LadderBench();
        CHECK.due("22: wrong ahead of not possible", empty.fault(1, 1, -1), LadderBench.BAD_VALUE);
        CHECK.due("22: no network", empty.fault(1, 1, 0), LadderBench.NOT_POSSIBLE);
    }

    private static void count() {
        LadderBench bench = Check.benchOf(NETWORK);
        bench.fold(4);
        bench.note(0);
        bench.note(0);
        bench.note(6);
        Check.command(bench, "source 7");
        Check.command(bench, "meter 8");
        int[] due = {7, 4, 2, 7, 8, 2, 3, 1, 5, 7, 0};
        for (int what = 0; what < due.length; what++) {
            CHECK.due("24: count(" + what + ")", bench.count(what), due[what]);
        }
        Check.command(bench, "open a");
        Check.command(bench, "short d");
        CHECK.due("24: not sound", bench.count(10), 2);
        CHECK.due("24: unfolded", bench.count(2), 3);
        CHECK.due("24: folds stay", bench.count(7), 1);
        bench.foldAll(true);
        CHECK.due("24: folds", bench.count(7), 4);
        CHECK.due("24: what -1", bench.count(-1), LadderBench.BAD_VALUE);
        CHECK.due("24: what 11", bench.count(11), LadderBench.BAD_VALUE);
    }

    private static void wrongParts() {
        LadderBench bench = Check.benchOf(NETWORK);
        int[] wrong = {-1, 7, 11, FAR, Integer.MIN_VALUE};
        for (int part : wrong) {
            String call = "part " + part;
            CHECK.due("15: " + call, bench.resistance(part, 5), LadderBench.UNKNOWN);
            CHECK.due("16: " + call, bench.folded(part, 5), LadderBench.UNKNOWN);
            CHECK.due("17: " + call, bench.voltage(part, 5), LadderBench.UNKNOWN);
            CHECK.due("18: " + call, bench.reading(part, 5), LadderBench.UNKNOWN);
            CHECK.due("19: " + call, bench.loss(part), LadderBench.UNKNOWN);
        }
        int[] whats = {-1, 2, FAR};
        for (int what : whats) {
            CHECK.due("15: what " + what, bench.resistance(0, what), LadderBench.BAD_VALUE);
            CHECK.due("16: what " + what, bench.folded(0, what), LadderBench.BAD_VALUE);
            CHECK.due("17: what " + what, bench.voltage(0, what), LadderBench.BAD_VALUE);
            CHECK.due("18: what " + what, bench.reading(0, what), LadderBench.BAD_VALUE);
        }
    }
}
