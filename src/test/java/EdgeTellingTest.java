/** The edges of promises 13, 21, 22 and 24: part, solve, fault, count. */
public final class EdgeTellingTest {
    private static final Check CHECK = new Check();
    private static final int UNKNOWN = LadderBench.UNKNOWN;
    private static final int BAD_VALUE = LadderBench.BAD_VALUE;
    private static final int NONE = LadderBench.NONE;
    private static final int GREATEST = Integer.MAX_VALUE;
    private static final int LEAST = Integer.MIN_VALUE;

    public static void main(String[] args) {
        partTellsEightThings();
        partIsRefused();
        solveAtZero();
        solveBesideInfinity();
        solveAtTheEndsOfItsRanges();
        solveIsRefused();
        solveWhereTheArmDoesNotMatter();
        itsOwnValueAndStateDoNotMatter();
        whatTellsUpperAndLower();
        faultAtZeroAndInfinity();
        faultAtTheEndsOfItsRanges();
        faultIsRefused();
        faultsInTheOrderOfTheLetters();
        armsThatAreNotSoundHaveNoFault();
        aFaultThatChangesNothing();
        countTellsElevenThings();
        countIsRefused();
        CHECK.finish("EdgeTellingTest");
    }

    // Promise 13

    private static void part(LadderBench bench, int part, int... due) {
        for (int what = 0; what < due.length; what++) {
            CHECK.due("part(" + part + ", " + what + ")", bench.part(part, what), due[what]);
        }
    }

    private static void partTellsEightThings() {
        LadderBench arm = Check.benchOf("f");
        part(arm, 0, 0, 0, 1, NONE, 'f', 1, 0, NONE);
        LadderBench pair = Check.benchOf("b|a");
        part(pair, 0, 0, 0, 1, 2, 'b', 1, 0, NONE);
        part(pair, 1, 0, 0, 1, 2, 'a', 1, 0, NONE);
        part(pair, 2, 2, 2, 0, NONE, NONE, 2, 1, 0);
        pair.fold(2);
        part(pair, 2, 2, 2, 1, NONE, NONE, 2, 0, 0);
        LadderBench six = Check.benchOf("a+b+c+d+e+f");
        part(six, 6, 1, 6, 0, NONE, NONE, 6, 1, 0);
        LadderBench deep = Check.benchOf("a|(b+c|(d+(e|f)))");
        part(deep, 5, 0, 0, 1, 6, 'f', 1, 0, NONE);
        part(deep, 6, 2, 2, 0, 7, NONE, 2, 1, 4);
        part(deep, 7, 1, 2, 0, 8, NONE, 3, 0, 3);
        part(deep, 8, 2, 2, 0, 9, NONE, 4, 0, 2);
        part(deep, 9, 1, 2, 0, 10, NONE, 5, 0, 1);
        part(deep, 10, 2, 2, 0, NONE, NONE, 6, 0, 0);
        LadderBench first = Check.benchOf("(a|b)+c|(d+e)");
        part(first, 7, 2, 2, 0, 8, NONE, 3, 0, 3);
        part(first, 8, 1, 2, 0, NONE, NONE, 5, 0, 2);
    }

    private static void partIsRefused() {
        for (int part : new int[] {-1, 7, 10, 11, 32, GREATEST, LEAST}) {
            for (int what : new int[] {-1, 0, 7, 8}) {
                CHECK.due("part(" + part + ", " + what + ")", Scenes.rich().part(part, what), UNKNOWN);
            }
        }
        for (int what : new int[] {-1, 8, GREATEST, LEAST}) {
            for (int part : new int[] {0, 6}) {
                CHECK.due("part(" + part + ", " + what + ")", Scenes.rich().part(part, what), BAD_VALUE);
            }
        }
        Twins.unchanged(CHECK, "part ahead of the first", Scenes::rich, x -> x.part(-1, 0), UNKNOWN);
        Twins.unchanged(CHECK, "part behind the last", Scenes::rich, x -> x.part(7, 8), UNKNOWN);
        Twins.unchanged(CHECK, "part of a wrong kind", Scenes::rich, x -> x.part(0, 8), BAD_VALUE);
        Twins.unchanged(CHECK, "part around the whole", Scenes::rich, x -> x.part(6, 3), NONE);
        Twins.unchanged(CHECK, "the letter of no arm", Scenes::rich, x -> x.part(4, 4), NONE);
        Twins.unchanged(CHECK, "the first part of an arm", Scenes::rich, x -> x.part(0, 7), NONE);
    }

    // Promise 21; with 10 ohms each c of a + b | (c + d) is (20 w - 300) / (20 - w), a is w - 20 / 3

    private static void one(LadderBench bench, int letter, int upper, int lower, long dueUpper, long dueLower) {
        String call = "solve(" + (char) letter + ", " + upper + ", " + lower + ")";
        CHECK.due(call, bench.solve(letter, upper, lower, 0), 1);
        CHECK.dueFraction(call, bench.solve(letter, upper, lower, 1), bench.solve(letter, upper, lower, 2),
                dueUpper, dueLower);
    }

    private static void notOne(LadderBench bench, int letter, int upper, int lower, int due) {
        String call = "solve(" + (char) letter + ", " + upper + ", " + lower + ")";
        CHECK.due(call, bench.solve(letter, upper, lower, 0), due);
        CHECK.dueFraction(call, bench.solve(letter, upper, lower, 1), bench.solve(letter, upper, lower, 2), NONE, NONE);
    }

    /** "It has to be a fraction that is at least 0" */
    private static void solveAtZero() {
        LadderBench bench = Check.benchOf("a+b|(c+d)");
        notOne(bench, 'c', 1484, 99, 0);
        one(bench, 'c', 15, 1, 0, 1);
        one(bench, 'c', 1486, 99, 10, 247);
        notOne(bench, 'a', 659, 99, 0);
        one(bench, 'a', 20, 3, 0, 1);
        one(bench, 'a', 661, 99, 1, 99);
        notOne(Check.benchOf("a+b"), 'a', 989, 99, 0);
        one(Check.benchOf("a+b"), 'a', 990, 99, 0, 1);
        one(Check.benchOf("a+b"), 'a', 991, 99, 1, 99);
        one(Check.benchOf("a|b"), 'a', 0, 1, 0, 1);
        one(Check.benchOf("a|b"), 'a', 0, 99, 0, 1);
        one(Check.benchOf("a|b"), 'a', 1, 99, 10, 989);
        notOne(Check.benchOf("a+b"), 'b', 0, 1, 0);
        one(Check.benchOf("a"), 'a', 0, 1, 0, 1);
        one(Check.benchOf("a"), 'a', 1, 99, 1, 99);
    }

    /** "(not infinite)" */
    private static void solveBesideInfinity() {
        LadderBench bench = Check.benchOf("a+b|(c+d)");
        one(bench, 'c', 1979, 99, 9880, 1);
        notOne(bench, 'c', 20, 1, 0);
        notOne(bench, 'c', 1981, 99, 0);
        one(Check.benchOf("a|b"), 'a', 989, 99, 9890, 1);
        notOne(Check.benchOf("a|b"), 'a', 10, 1, 0);
        notOne(Check.benchOf("a|b"), 'a', 991, 99, 0);
        notOne(Check.benchOf("a|b"), 'b', 9999, 1, 0);
        LadderBench five = Check.benchOf("a|b|c|d|e|f");
        one(five, 'f', 197, 99, 394, 1);
        notOne(five, 'f', 2, 1, 0);
        notOne(five, 'f', 199, 99, 0);
    }

    private static void solveAtTheEndsOfItsRanges() {
        LadderBench bench = Check.benchOf("a+b|(c+d)");
        one(bench, 'a', 9999, 1, 29977, 3);
        one(bench, 'a', 9998, 1, 29974, 3);
        one(bench, 'a', 9999, 99, 283, 3);
        one(bench, 'a', 9999, 98, 28037, 294);
        one(bench, 'c', 50, 3, 10, 1);
        one(bench, 'c', 750, 45, 10, 1);
        one(bench, 'c', 1650, 99, 10, 1);
        one(Check.benchOf("a"), 'a', 9999, 1, 9999, 1);
        one(Check.benchOf("a"), 'a', 9999, 99, 101, 1);
        one(Check.benchOf("a"), 'a', 98, 99, 98, 99);
        String[] hard = {"set a 99", "set b 98", "set c 97", "set d 95", "set e 89", "set f 83"};
        notOne(Scenes.after("a+b+c+d+e+f", hard), 'a', 9999, 97, 0);
        one(Scenes.after("a|b|c|d|e|f", hard), 'a', 1399, 76, 9332698347910L, 6476077L);
        one(Scenes.after("a|b|c|d|e", "open b", "open c", "open d", "open e"), 'a', 9998, 97, 9998, 97);
    }

    private static void solveIsRefused() {
        LadderBench rich = Scenes.rich();
        for (int letter : new int[] {'e', 'f', 'g', '`', 'A', 0, -1, 'a' + 256, 'a' + 65536, GREATEST, LEAST}) {
            CHECK.due("no arm " + letter, rich.solve(letter, 20, 1, 0), UNKNOWN);
            CHECK.due("no arm ahead of all else", rich.solve(letter, -1, 0, 3), UNKNOWN);
        }
        for (int upper : new int[] {-1, 10000, GREATEST, LEAST}) {
            CHECK.due("upper " + upper, rich.solve('a', upper, 1, 0), BAD_VALUE);
        }
        for (int lower : new int[] {-1, 0, 100, GREATEST, LEAST}) {
            CHECK.due("lower " + lower, rich.solve('a', 20, lower, 0), BAD_VALUE);
            CHECK.due("0 / " + lower, rich.solve('a', 0, lower, 0), BAD_VALUE);
        }
        for (int what : new int[] {-1, 3, GREATEST, LEAST}) {
            CHECK.due("what " + what, rich.solve('a', 20, 1, what), BAD_VALUE);
        }
        Twins.unchanged(CHECK, "solve of no arm", Scenes::rich, x -> x.solve('e', 20, 1, 0), UNKNOWN);
        Twins.unchanged(CHECK, "solve of upper -1", Scenes::rich, x -> x.solve('a', -1, 1, 0), BAD_VALUE);
        Twins.unchanged(CHECK, "solve of upper 10000", Scenes::rich, x -> x.solve('a', 10000, 1, 0), BAD_VALUE);
        Twins.unchanged(CHECK, "solve of lower 0", Scenes::rich, x -> x.solve('a', 1, 0, 0), BAD_VALUE);
        Twins.unchanged(CHECK, "solve of lower 100", Scenes::rich, x -> x.solve('a', 1, 100, 0), BAD_VALUE);
        Twins.unchanged(CHECK, "solve with what 3", Scenes::rich, x -> x.solve('a', 30, 1, 3), BAD_VALUE);
        Twins.unchanged(CHECK, "solve of none", Scenes::rich, x -> x.solve('a', 5, 1, 1), NONE);
        Twins.unchanged(CHECK, "solve of one that is open", Scenes::rich, x -> x.solve('d', 30, 1, 0), 0);
        Twins.unchanged(CHECK, "solve without a network", LadderBench::new, x -> x.solve('a', 1, 1, 0), UNKNOWN);
    }

    /** "0, 1, or 2 if there are several" */
    private static void solveWhereTheArmDoesNotMatter() {
        LadderBench beside = Scenes.after("a+b|(c+d)", "open d");
        notOne(beside, 'c', 20, 1, 2);
        notOne(beside, 'c', 40, 2, 2);
        notOne(beside, 'c', 1979, 99, 0);
        notOne(beside, 'c', 1981, 99, 0);
        notOne(beside, 'c', 15, 1, 0);
        LadderBench shorted = Scenes.after("a|b", "short b");
        notOne(shorted, 'a', 0, 1, 2);
        notOne(shorted, 'a', 0, 99, 2);
        notOne(shorted, 'a', 1, 99, 0);
        one(shorted, 'b', 5, 1, 10, 1);
        LadderBench open = Scenes.after("a+b", "open b");
        notOne(open, 'a', 0, 1, 0);
        notOne(open, 'a', 9999, 1, 0);
        one(open, 'b', 10, 1, 0, 1);
        one(open, 'b', 9999, 1, 9989, 1);
        // Within a part that does not matter, both ways.
        notOne(Scenes.after("a|(b+c|d)", "short a"), 'c', 0, 1, 2);
        notOne(Scenes.after("a+(b|(c+d))", "short b"), 'd', 10, 1, 2);
        notOne(Scenes.after("a+(b|(c+d))", "short b"), 'd', 15, 1, 0);
        notOne(Scenes.after("a+(b|(c+d))", "short b", "open a"), 'd', 10, 1, 0);
        notOne(Scenes.after("a|(b+c|d)", "short c"), 'd', 5, 1, 2);
        notOne(Scenes.after("a|(b+c|d)", "open b"), 'd', 10, 1, 2);
        one(Scenes.after("a+b", "short b"), 'a', 7, 2, 7, 2);
        one(Scenes.after("a|b", "open b"), 'a', 7, 2, 7, 2);
    }

    private static void itsOwnValueAndStateDoNotMatter() {
        for (String word : new String[] {"mend", "open", "short"}) {
            for (int value : new int[] {1, 99}) {
                LadderBench bench = Scenes.after("a+b|(c+d)", word + " c", "set c " + value);
                one(bench, 'c', 50, 3, 10, 1);
                one(bench, 'c', 15, 1, 0, 1);
                notOne(bench, 'c', 20, 1, 0);
                LadderBench parallel = Scenes.after("a|b", word + " a", "set a " + value);
                one(parallel, 'a', 5, 1, 10, 1);
                notOne(parallel, 'a', 10, 1, 0);
                LadderBench outer = Scenes.after("a|(b+c)", word + " b", "set b " + value, "short a");
                notOne(outer, 'b', 0, 1, 2);
                notOne(outer, 'b', 1, 1, 0);
                CHECK.due("the value stays", bench.arm('c', 0), value);
            }
        }
    }

    private static void whatTellsUpperAndLower() {
        LadderBench bench = Check.benchOf("a+b");
        CHECK.due("what 0", bench.solve('a', 21, 2, 0), 1);
        CHECK.due("what 1", bench.solve('a', 21, 2, 1), 1);
        CHECK.due("what 2", bench.solve('a', 21, 2, 2), 2);
        CHECK.due("what 0 of none", bench.solve('a', 1, 2, 0), 0);
        CHECK.due("what 1 of none", bench.solve('a', 1, 2, 1), NONE);
        CHECK.due("what 2 of none", bench.solve('a', 1, 2, 2), NONE);
    }

    // Promise 22

    private static void faults(LadderBench bench, int upper, int lower, int... due) {
        String call = "fault(" + upper + ", " + lower + ", ";
        for (int number = 0; number < due.length; number++) {
            CHECK.due(call + number + ")", bench.fault(upper, lower, number), due[number]);
        }
        CHECK.due(call + due.length + ")", bench.fault(upper, lower, due.length), NONE);
        CHECK.due(call + (due.length + 1) + ")", bench.fault(upper, lower, due.length + 1), NONE);
        CHECK.due(call + "greatest)", bench.fault(upper, lower, GREATEST), NONE);
        CHECK.due(call + "-1)", bench.fault(upper, lower, -1), BAD_VALUE);
    }

    /** "it can be infinite here: lower is 0, whatever upper is above 0" */
    private static void faultAtZeroAndInfinity() {
        for (int upper : new int[] {1, 2, 12, 9998, 9999}) {
            faults(Check.benchOf("a+b|(c+d)"), upper, 0, 1);
            faults(Check.benchOf("a"), upper, 0, 1);
            faults(Check.benchOf("a|b"), upper, 0);
        }
        for (int lower : new int[] {1, 2, 98, 99}) {
            faults(Check.benchOf("a|b"), 0, lower, 2, 12);
            faults(Check.benchOf("a"), 0, lower, 2);
            faults(Check.benchOf("a+b"), 0, lower);
        }
        CHECK.due("both are 0", Check.benchOf("a").fault(0, 0, 0), BAD_VALUE);
    }

    private static void faultAtTheEndsOfItsRanges() {
        LadderBench bench = Check.benchOf("a+b|(c+d)");
        faults(bench, 20, 1, 21, 31);
        faults(bench, 1980, 99, 21, 31);
        faults(bench, 1960, 98, 21, 31);
        faults(bench, 1979, 99);
        faults(bench, 1981, 99);
        faults(bench, 9999, 1);
        faults(bench, 9999, 99);
        faults(bench, 50, 3);
        faults(Scenes.after("a|b", "set b 99"), 9801, 99, 1);
        String[] open = {"open b", "set a 99", "set b 1", "set c 2"};
        faults(Scenes.after("a|c|b", open), 9999, 99);
    }

    private static void faultIsRefused() {
        LadderBench rich = Scenes.rich();
        for (int wrong : new int[] {-1, GREATEST, LEAST}) {
            CHECK.due("upper " + wrong, rich.fault(wrong, 1, 0), BAD_VALUE);
            CHECK.due("lower " + wrong, rich.fault(1, wrong, 0), BAD_VALUE);
        }
        CHECK.due("upper 10000", rich.fault(10000, 1, 0), BAD_VALUE);
        CHECK.due("upper 10000 and lower 0", rich.fault(10000, 0, 0), BAD_VALUE);
        CHECK.due("lower 100", rich.fault(1, 100, 0), BAD_VALUE);
        CHECK.due("upper -1 and lower 0", rich.fault(-1, 0, 0), BAD_VALUE);
        CHECK.due("number least", rich.fault(1, 1, LEAST), BAD_VALUE);
        int[][] wrong = {{-1, 1, 0}, {10000, 1, 0}, {1, -1, 0}, {1, 100, 0}, {0, 0, 0}, {1, 1, -1}};
        for (int[] each : wrong) {
            Twins.unchanged(CHECK, "fault(" + each[0] + ", " + each[1] + ", " + each[2] + ")", Scenes::rich,
                    x -> x.fault(each[0], each[1], each[2]), BAD_VALUE);
            CHECK.due("wrong ahead of no network", new LadderBench().fault(each[0], each[1], each[2]), BAD_VALUE);
        }
        Twins.unchanged(CHECK, "fault without a network", LadderBench::new, x -> x.fault(1, 1, 0), LadderBench.NOT_POSSIBLE);
        Twins.unchanged(CHECK, "fault without a network", LadderBench::new, x -> x.fault(9999, 99, GREATEST),
                LadderBench.NOT_POSSIBLE);
        Twins.unchanged(CHECK, "fault behind the last", Scenes::rich, x -> x.fault(1, 0, 2), NONE);
        Twins.unchanged(CHECK, "the last fault", Scenes::rich, x -> x.fault(1, 0, 1), 11);
    }

    /** "in the order of the letters, open ahead of shorted" */
    private static void faultsInTheOrderOfTheLetters() {
        faults(Check.benchOf("f+e+d+c+b+a"), 1, 0, 1, 11, 21, 31, 41, 51);
        faults(Check.benchOf("f+e+d+c+b+a"), 50, 1, 2, 12, 22, 32, 42, 52);
        faults(Check.benchOf("f|e|d|c|b|a"), 0, 1, 2, 12, 22, 32, 42, 52);
        faults(Check.benchOf("f|e|d|c|b|a"), 2, 1, 1, 11, 21, 31, 41, 51);
        faults(Scenes.after("f|e|d|c|b|a", "short a"), 0, 1, 11, 12, 21, 22, 31, 32, 41, 42, 51, 52);
        faults(Scenes.after("f|e|d|c|b|a", "short f"), 0, 1, 1, 2, 11, 12, 21, 22, 31, 32, 41, 42);
        faults(Check.benchOf("f"), 1, 0, 51);
        faults(Check.benchOf("e+c"), 1, 0, 21, 41);
        faults(Scenes.after("c|(b+a)", "set c 20"), 20, 1, 1, 11, 21);
    }

    /** "one arm that is sound is open or shorted instead, all others are as they are (those that are not sound, too)" */
    private static void armsThatAreNotSoundHaveNoFault() {
        LadderBench none = Scenes.after("a+b", "open a", "short b");
        faults(none, 1, 0);
        faults(none, 10, 1);
        faults(none, 20, 1);
        LadderBench open = Scenes.after("a+b", "open a");
        faults(open, 1, 0, 11, 12);
        faults(open, 10, 1);
        LadderBench shorted = Scenes.after("a+b", "short a");
        faults(shorted, 0, 1, 12);
        faults(shorted, 1, 0, 11);
        faults(shorted, 10, 1);
        Check.command(shorted, "mend a");
        faults(shorted, 10, 1, 2, 12);
    }

    private static void aFaultThatChangesNothing() {
        faults(Scenes.after("a+b|(c+d)", "open d"), 20, 1, 21, 22);
        faults(Scenes.after("a+b|(c+d)", "open d"), 10, 1, 2, 12);
        faults(Scenes.after("a+b|(c+d)", "short b"), 10, 1, 21, 22, 31, 32);
        LadderBench bench = Scenes.after("a+b|(c+d)", "open d");
        bench.foldAll(true);
        bench.fault(20, 1, 1);
        CHECK.due("the arms are as they were", bench.arm('c', 1), 0);
        CHECK.due("the parts stay folded", bench.count(2), 0);
    }

    // Promise 24

    private static void counts(LadderBench bench, int... due) {
        for (int what = 0; what < due.length; what++) {
            CHECK.due("count(" + what + ")", bench.count(what), due[what]);
        }
    }

    private static void countTellsElevenThings() {
        counts(new LadderBench(), 0, 0, 0, 12, 100, 0, 0, 0, 0, 0, 0);
        counts(Check.benchOf("a"), 1, 1, 0, 12, 100, 0, 0, 0, 1, 1, 0);
        counts(Check.benchOf("a|(b+c|(d+(e|f)))"), 11, 6, 5, 12, 100, 0, 0, 0, 1, 17, 0);
        counts(Scenes.rich(), 7, 4, 2, 9, 100, 2, 2, 1, 5, 6, 1);
        counts(Scenes.foldedWhole(), 7, 4, 0, 9, 100, 2, 2, 3, 5, 6, 1);
        counts(Scenes.noted(20), 1, 1, 0, 20, 100, 20, 20, 0, 5, 9, 0);
        String[] all = {"open a", "short b", "open c", "short d", "open e", "short f"};
        CHECK.due("six that are not sound", Scenes.after("a+b+c+d+e+f", all).count(10), 6);
        CHECK.due("none of another network", Check.read(Scenes.after("a+b+c+d+e+f", all), "a"), 1);
        LadderBench less = Scenes.after("a+b+c+d+e+f", all);
        Check.read(less, "a+b");
        CHECK.due("none that are not sound", less.count(10), 0);
        CHECK.due("two arms", less.count(1), 2);
    }

    private static void countIsRefused() {
        for (int what : new int[] {-1, 11, GREATEST, LEAST}) {
            Twins.unchanged(CHECK, "count(" + what + ")", Scenes::rich, x -> x.count(what), BAD_VALUE);
            Twins.unchanged(CHECK, "count(" + what + ")", LadderBench::new, x -> x.count(what), BAD_VALUE);
        }
        Twins.unchanged(CHECK, "count(0)", Scenes::rich, x -> x.count(0), 7);
        Twins.unchanged(CHECK, "count(10)", Scenes::rich, x -> x.count(10), 1);
    }
}
