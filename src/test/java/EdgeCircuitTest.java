/** The edges of the terms ARMS, RESISTANCE and VOLTAGES, and of promises 15 to 17. */
public final class EdgeCircuitTest {
    private static final Check CHECK = new Check();
    private static final int UNKNOWN = LadderBench.UNKNOWN;
    private static final int BAD_VALUE = LadderBench.BAD_VALUE;

    public static void main(String[] args) {
        anArmHasAValueAndAState();
        theResistanceOfAnArm();
        seriesIsTheSum();
        seriesIsInfiniteIfAnyIs();
        parallelIsZeroIfAnyIs();
        parallelLeavesInfiniteOnesOut();
        parallelIsInfiniteIfAllAre();
        fractionsAreInLowestTerms();
        theGreatestFractions();
        theSourceIsOverTheWhole();
        theVoltageOverPartsOfAParallelPart();
        theVoltageInAnInfiniteSeries();
        theVoltageInASeriesOfZero();
        theVoltageIsShared();
        theWholeIsShorted();
        whatIsWrong();
        CHECK.finish("EdgeCircuitTest");
    }

    private static void ohms(LadderBench bench, int part, long upper, long lower) {
        CHECK.dueFraction("resistance(" + part + ")", bench.resistance(part, 0), bench.resistance(part, 1), upper, lower);
    }

    private static void volts(LadderBench bench, int part, long upper, long lower) {
        CHECK.dueFraction("voltage(" + part + ")", bench.voltage(part, 0), bench.voltage(part, 1), upper, lower);
    }

    // ARMS

    private static void anArmHasAValueAndAState() {
        LadderBench bench = Check.benchOf("f|c");
        CHECK.due("10 ohms at first", bench.arm('f', 0), 10);
        CHECK.due("sound at first", bench.arm('f', 1), 0);
        CHECK.due("the part of the first", bench.arm('f', 2), 0);
        CHECK.due("the part of the second", bench.arm('c', 2), 1);
        Twins.unchanged(CHECK, "arm that is not there", Scenes::rich, x -> x.arm('e', 0), UNKNOWN);
        Twins.unchanged(CHECK, "arm ahead of a", Scenes::rich, x -> x.arm('`', 0), UNKNOWN);
        Twins.unchanged(CHECK, "arm behind f", Scenes::rich, x -> x.arm('g', 0), UNKNOWN);
        Twins.unchanged(CHECK, "arm with what -1", Scenes::rich, x -> x.arm('d', -1), BAD_VALUE);
        Twins.unchanged(CHECK, "arm with what 3", Scenes::rich, x -> x.arm('d', 3), BAD_VALUE);
        Twins.unchanged(CHECK, "arm with both wrong", Scenes::rich, x -> x.arm('e', 3), UNKNOWN);
        Twins.unchanged(CHECK, "arm with what 0", Scenes::rich, x -> x.arm('b', 0), 20);
        Twins.unchanged(CHECK, "arm with what 1", Scenes::rich, x -> x.arm('d', 1), 1);
        Twins.unchanged(CHECK, "arm with what 2", Scenes::rich, x -> x.arm('d', 2), 3);
        for (int letter : new int[] {0, 1, -1, 'A', 'a' + 256, 'a' + 65536, 'a' - 65536, Integer.MAX_VALUE, Integer.MIN_VALUE}) {
            CHECK.due("arm(" + letter + ", 0)", Scenes.rich().arm(letter, 0), UNKNOWN);
        }
        for (int what : new int[] {Integer.MAX_VALUE, Integer.MIN_VALUE}) {
            CHECK.due("arm('a', " + what + ")", Scenes.rich().arm('a', what), BAD_VALUE);
        }
    }

    /** "its value if it is sound; it is infinite if it is open, and 0 if it is shorted" */
    private static void theResistanceOfAnArm() {
        for (int value : new int[] {1, 2, 50, 98, 99}) {
            LadderBench bench = Scenes.after("a", "set a " + value);
            ohms(bench, 0, value, 1);
            Check.command(bench, "open a");
            ohms(bench, 0, 1, 0);
            Check.command(bench, "short a");
            ohms(bench, 0, 0, 1);
            Check.command(bench, "mend a");
            ohms(bench, 0, value, 1);
        }
    }

    // RESISTANCE

    private static void seriesIsTheSum() {
        ohms(Scenes.after("a+b", "set a 1", "set b 1"), 2, 2, 1);
        ohms(Scenes.after("a+b", "set a 99", "set b 99"), 2, 198, 1);
        ohms(Check.benchOf("a+b+c+d+e+f"), 6, 60, 1);
        ohms(Scenes.after("a+b+c+d+e+f", "set a 1", "set b 2", "set c 3", "set d 4", "set e 5", "set f 6"), 6, 21, 1);
        ohms(Scenes.after("a+b+c", "short b"), 3, 20, 1);
        ohms(Scenes.after("a+b", "short a", "short b"), 2, 0, 1);
        ohms(Check.benchOf("a|b+c|d|e"), 7, 25, 3);
    }

    private static void seriesIsInfiniteIfAnyIs() {
        for (char letter = 'a'; letter <= 'f'; letter++) {
            ohms(Scenes.after("a+b+c+d+e+f", "open " + letter), 6, 1, 0);
        }
        ohms(Scenes.after("a+b", "open a", "open b"), 2, 1, 0);
        ohms(Scenes.after("a+b", "open a", "short b"), 2, 1, 0);
        ohms(Scenes.after("a+b", "short a", "open b"), 2, 1, 0);
        ohms(Scenes.after("a+b|c", "open b", "open c"), 4, 1, 0);
        ohms(Scenes.after("a+b|c", "open b"), 4, 20, 1);
    }

    private static void parallelIsZeroIfAnyIs() {
        for (char letter = 'a'; letter <= 'f'; letter++) {
            ohms(Scenes.after("a|b|c|d|e|f", "short " + letter), 6, 0, 1);
        }
        ohms(Scenes.after("a|b", "short a", "open b"), 2, 0, 1);
        ohms(Scenes.after("a|b", "open a", "short b"), 2, 0, 1);
        ohms(Scenes.after("a|b", "short a", "short b"), 2, 0, 1);
        ohms(Scenes.after("a|(b+c)", "short b"), 4, 5, 1);
        ohms(Scenes.after("a|(b+c)", "short b", "short c"), 4, 0, 1);
    }

    private static void parallelLeavesInfiniteOnesOut() {
        ohms(Check.benchOf("a|b|c"), 3, 10, 3);
        ohms(Scenes.after("a|b|c", "open a"), 3, 5, 1);
        ohms(Scenes.after("a|b|c", "open a", "open c"), 3, 10, 1);
        ohms(Scenes.after("a|(b+c)", "open b"), 4, 10, 1);
    }

    private static void parallelIsInfiniteIfAllAre() {
        ohms(Scenes.after("a|b|c", "open a", "open b", "open c"), 3, 1, 0);
        ohms(Scenes.after("a|b", "open a", "open b"), 2, 1, 0);
        ohms(Scenes.after("a|(b+c)", "open a", "open c"), 4, 1, 0);
        ohms(Scenes.after("a|(b+c)", "open a"), 4, 20, 1);
    }

    private static void fractionsAreInLowestTerms() {
        ohms(Scenes.after("a|b", "set a 1", "set b 1"), 2, 1, 2);
        ohms(Scenes.after("a|b", "set a 2", "set b 2"), 2, 1, 1);
        ohms(Scenes.after("a|b", "set a 3", "set b 6"), 2, 2, 1);
        ohms(Scenes.after("a|b", "set a 4", "set b 6"), 2, 12, 5);
        ohms(Scenes.after("a|b|c|d|e|f", "set a 1", "set b 1", "set c 1", "set d 1", "set e 1", "set f 1"), 6, 1, 6);
        ohms(Scenes.after("a|b|c|d|e|f", "set a 99", "set b 99", "set c 99", "set d 99", "set e 99", "set f 99"), 6, 33, 2);
        ohms(Scenes.after("a|b+c|d", "set a 1", "set b 1", "set c 1", "set d 1"), 6, 1, 1);
    }

    /** Six arms of 99, 98, 97, 95, 89 and 83 ohms: no two of them have a divisor but 1. */
    private static void theGreatestFractions() {
        String[] values = {"set a 99", "set b 98", "set c 97", "set d 95", "set e 89", "set f 83"};
        long all = 99L * 98 * 97 * 95 * 89 * 83;
        long sum = all / 99 + all / 98 + all / 97 + all / 95 + all / 89 + all / 83;
        ohms(Scenes.after("a|b|c|d|e|f", values), 6, all, sum);
        LadderBench bench = Scenes.after("a+(b|c|d|e|f)", values);
        long five = all / 99;
        long fiveSum = sum - five;
        fiveSum = fiveSum / 99;
        ohms(bench, 6, five, fiveSum);
        ohms(bench, 7, 99 * fiveSum + five, fiveSum);
        Check.command(bench, "source 99");
        long whole = 99 * fiveSum + five;
        long divisor = divisor(99 * five, whole);
        volts(bench, 6, 99 * five / divisor, whole / divisor);
    }

    private static long divisor(long a, long b) {
        return b == 0 ? a : divisor(b, a % b);
    }

    // VOLTAGES

    private static void theSourceIsOverTheWhole() {
        volts(Check.benchOf("a"), 0, 12, 1);
        volts(Scenes.after("a", "source 1"), 0, 1, 1);
        volts(Scenes.after("a", "source 99"), 0, 99, 1);
        volts(Scenes.after("a", "open a"), 0, 12, 1);
        volts(Scenes.after("a", "short a"), 0, 12, 1);
        volts(Scenes.after("a+b", "open a"), 2, 12, 1);
        volts(Scenes.after("a+b", "short a", "short b"), 2, 12, 1);
        volts(Scenes.after("a|b", "open a", "open b"), 2, 12, 1);
    }

    private static void theVoltageOverPartsOfAParallelPart() {
        String[] states = {"mend", "open", "short"};
        for (String first : states) {
            for (String second : states) {
                LadderBench bench = Scenes.after("a|b", first + " a", second + " b", "set a 1");
                volts(bench, 0, 12, 1);
                volts(bench, 1, 12, 1);
            }
        }
        LadderBench within = Check.benchOf("a+b|(c+d)");
        volts(within, 1, 24, 5);
        volts(within, 4, 24, 5);
        volts(within, 5, 24, 5);
    }

    /** "V divided by the number of its parts that are infinite for each of these, and 0 for each other one" */
    private static void theVoltageInAnInfiniteSeries() {
        LadderBench one = Scenes.after("a+b+c", "open b", "short c");
        volts(one, 0, 0, 1);
        volts(one, 1, 12, 1);
        volts(one, 2, 0, 1);
        LadderBench two = Scenes.after("a+b+c", "open a", "open c");
        volts(two, 0, 6, 1);
        volts(two, 1, 0, 1);
        volts(two, 2, 6, 1);
        String[] all = {"open a", "open b", "open c", "open d", "open e"};
        LadderBench five = Scenes.after("a+b+c+d+e", all);
        LadderBench six = Scenes.after("a+b+c+d+e+f", all);
        volts(six, 0, 12, 5);
        volts(six, 5, 0, 1);
        Check.command(six, "open f");
        for (int part = 0; part < 5; part++) {
            volts(five, part, 12, 5);
            volts(six, part, 2, 1);
        }
        volts(six, 5, 2, 1);
        LadderBench parts = Scenes.after("a|b+(c+d)|e", "open a", "open b", "open c", "open d");
        volts(parts, 2, 12, 1);
        volts(parts, 0, 12, 1);
        volts(parts, 6, 0, 1);
        volts(parts, 3, 0, 1);
        Check.command(parts, "open e");
        volts(parts, 2, 6, 1);
        volts(parts, 6, 6, 1);
        volts(parts, 5, 6, 1);
        volts(parts, 3, 3, 1);
    }

    private static void theVoltageInASeriesOfZero() {
        LadderBench bench = Scenes.after("a|(b+c)", "short b", "short c");
        volts(bench, 3, 12, 1);
        volts(bench, 1, 0, 1);
        volts(bench, 2, 0, 1);
        volts(bench, 0, 12, 1);
        LadderBench inner = Scenes.after("a+(b+c)", "short b", "short c");
        volts(inner, 0, 12, 1);
        volts(inner, 3, 0, 1);
        volts(inner, 1, 0, 1);
        Check.command(inner, "mend c");
        volts(inner, 1, 0, 1);
        volts(inner, 2, 6, 1);
    }

    private static void theVoltageIsShared() {
        LadderBench bench = Scenes.after("a+b", "set a 1", "set b 99", "source 99");
        volts(bench, 0, 99, 100);
        volts(bench, 1, 9801, 100);
        Check.command(bench, "short a");
        volts(bench, 0, 0, 1);
        volts(bench, 1, 99, 1);
        LadderBench equal = Check.benchOf("a+b+c+d+e+f");
        for (int part = 0; part < 6; part++) {
            volts(equal, part, 2, 1);
        }
        LadderBench deep = Check.benchOf("a+(b+(c+(d+(e+f))))");
        volts(deep, 6, 4, 1);
        volts(deep, 9, 10, 1);
        volts(deep, 5, 2, 1);
    }

    /** "(If the whole network has the resistance 0, voltages are told as these rules say.)" */
    private static void theWholeIsShorted() {
        LadderBench arm = Scenes.after("a", "short a");
        volts(arm, 0, 12, 1);
        LadderBench series = Scenes.after("a+b", "short a", "short b");
        volts(series, 0, 0, 1);
        volts(series, 1, 0, 1);
        volts(series, 2, 12, 1);
        LadderBench parallel = Scenes.after("a|(b+c)", "short a");
        volts(parallel, 0, 12, 1);
        volts(parallel, 1, 6, 1);
        volts(parallel, 3, 12, 1);
        volts(parallel, 4, 12, 1);
    }

    // Promises 15 to 17: the order of the checks; what is told changes nothing

    private static void whatIsWrong() {
        for (int part : new int[] {-1, 7, 10, 11, Integer.MAX_VALUE, Integer.MIN_VALUE}) {
            for (int what : new int[] {-1, 0, 1, 2}) {
                LadderBench bench = Scenes.foldedWhole();
                CHECK.due("resistance(" + part + ", " + what + ")", bench.resistance(part, what), UNKNOWN);
                CHECK.due("folded(" + part + ", " + what + ")", bench.folded(part, what), UNKNOWN);
                CHECK.due("voltage(" + part + ", " + what + ")", bench.voltage(part, what), UNKNOWN);
                CHECK.due("reading(" + part + ", " + what + ")", bench.reading(part, what), UNKNOWN);
            }
        }
        for (int part : new int[] {0, 6}) {
            for (int what : new int[] {-1, 2, Integer.MAX_VALUE, Integer.MIN_VALUE}) {
                LadderBench bench = Scenes.foldedWhole();
                CHECK.due("resistance(" + part + ", " + what + ")", bench.resistance(part, what), BAD_VALUE);
                CHECK.due("folded(" + part + ", " + what + ")", bench.folded(part, what), BAD_VALUE);
                CHECK.due("voltage(" + part + ", " + what + ")", bench.voltage(part, what), BAD_VALUE);
                CHECK.due("reading(" + part + ", " + what + ")", bench.reading(part, what), BAD_VALUE);
            }
        }
        Twins.unchanged(CHECK, "resistance", Scenes::rich, x -> x.resistance(6, 0), 30);
        Twins.unchanged(CHECK, "folded", Scenes::rich, x -> x.folded(4, 1), 0);
        Twins.unchanged(CHECK, "folded of one that is not", Scenes::rich, x -> x.folded(6, 0), LadderBench.NONE);
        Twins.unchanged(CHECK, "voltage", Scenes::rich, x -> x.voltage(6, 0), 9);
        Twins.unchanged(CHECK, "voltage of none", Scenes::rich, x -> x.voltage(7, 2), UNKNOWN);
        Twins.unchanged(CHECK, "resistance of a wrong half", Scenes::rich, x -> x.resistance(0, 2), BAD_VALUE);
    }
}
