/** The edges of the term METER, and of promises 9, 18, 19, 20 and 23. */
public final class EdgeMeterTest {
    private static final Check CHECK = new Check();
    private static final int UNKNOWN = LadderBench.UNKNOWN;
    private static final int BAD_VALUE = LadderBench.BAD_VALUE;
    private static final int NOT_POSSIBLE = LadderBench.NOT_POSSIBLE;
    private static final int NONE = LadderBench.NONE;

    public static void main(String[] args) {
        theMeterHasAResistance();
        theReadingOfAnInfinitePart();
        theReadingOfAPartOfZero();
        theReadingOfTheWhole();
        itsOwnPartsStayAsTheyAre();
        whatIsInfiniteIsFoundAnew();
        theMeterIsGoneAfterwards();
        theLossIsRoundedDown();
        theLossIsNoneWithoutVoltage();
        allIsLost();
        lossIsRefused();
        theWorstIsTheLowestOfSeveral();
        equalFractionsAreTheSameReading();
        inTheOrderNotedFirst();
        atMostTwentyReadings();
        noteIsAnAct();
        noteIsRefused();
        notedIsRefused();
        CHECK.finish("EdgeMeterTest");
    }

    private static void told(LadderBench bench, int part, long upper, long lower) {
        CHECK.dueFraction("reading(" + part + ")", bench.reading(part, 0), bench.reading(part, 1), upper, lower);
    }

    // The reading

    /** Over a of a + b, 10 ohms each, m ohms read 6 m / (m + 5) volts. */
    private static void theMeterHasAResistance() {
        LadderBench bench = Check.benchOf("a+b");
        told(bench, 0, 40, 7);
        int[][] due = {{1, 1, 1}, {2, 12, 7}, {998, 5988, 1003}, {999, 2997, 502}};
        for (int[] each : due) {
            Check.command(bench, "meter " + each[0]);
            told(bench, 0, each[1], each[2]);
            told(bench, 1, each[1], each[2]);
        }
        Check.command(bench, "source 1");
        told(bench, 0, 999, 2008);
        Check.command(bench, "source 99");
        told(bench, 0, 98901, 2008);
    }

    private static void theReadingOfAnInfinitePart() {
        LadderBench one = Scenes.after("a+b", "open a");
        told(one, 0, 120, 11);
        told(one, 1, 0, 1);
        Check.command(one, "meter 1");
        told(one, 0, 12, 11);
        Check.command(one, "meter 999");
        told(one, 0, 11988, 1009);
        told(Scenes.after("a", "open a"), 0, 12, 1);
        told(Scenes.after("a+b", "open a", "short b"), 0, 12, 1);
        LadderBench part = Scenes.after("a+(b+c)", "open b", "open c");
        told(part, 3, 120, 11);
    }

    private static void theReadingOfAPartOfZero() {
        LadderBench one = Scenes.after("a+b", "short a");
        told(one, 0, 0, 1);
        told(one, 1, 12, 1);
        told(Scenes.after("a+b", "short a", "short b"), 0, 0, 1);
        told(Scenes.after("a+b", "short a", "short b"), 2, 12, 1);
        told(Scenes.after("a", "short a"), 0, 12, 1);
        told(Scenes.after("a+b|c", "short b"), 3, 0, 1);
        told(Scenes.after("a+b|c", "short b"), 2, 0, 1);
    }

    private static void theReadingOfTheWhole() {
        String[] networks = {"a", "a+b", "a|b", "a+b|(c+d)"};
        for (String network : networks) {
            for (String word : new String[] {"mend", "open", "short"}) {
                LadderBench bench = Scenes.after(network, word + " a", "meter 1", "source 7");
                told(bench, bench.count(0) - 1, 7, 1);
                CHECK.due("nothing is lost over the whole", bench.loss(bench.count(0) - 1), 0);
            }
        }
    }

    /** With b + c of 20 ohms beside a meter of 20 ohms there are 10 ohms, not those of b and c loaded. */
    private static void itsOwnPartsStayAsTheyAre() {
        LadderBench bench = Scenes.after("a+(b+c)", "meter 20");
        told(bench, 3, 6, 1);
        told(bench, 1, 3, 1);
        told(bench, 2, 3, 1);
        told(bench, 0, 3, 1);
        LadderBench parallel = Scenes.after("a+b|c", "meter 5");
        told(parallel, 3, 12, 5);
    }

    /** "all voltages, and which parts are infinite, are found anew with it" */
    private static void whatIsInfiniteIsFoundAnew() {
        LadderBench pair = Scenes.after("a+b|c", "open b", "open c");
        told(pair, 1, 120, 11);
        told(pair, 2, 120, 11);
        told(pair, 3, 120, 11);
        told(pair, 0, 0, 1);
        LadderBench inner = Scenes.after("a+(b+c)", "open b");
        told(inner, 1, 10, 1);
        told(inner, 2, 0, 1);
        LadderBench both = Scenes.after("a+(b+c)", "open a", "open b");
        CHECK.due("half of the source", both.voltage(1, 0), 6);
        told(both, 1, 0, 1);
        told(both, 0, 0, 1);
        LadderBench two = Scenes.after("a+b", "open a", "open b");
        told(two, 0, 0, 1);
        told(two, 1, 0, 1);
        LadderBench three = Scenes.after("a+b+c", "open a", "open b", "open c");
        CHECK.due("a third of the source", three.voltage(0, 0), 4);
        told(three, 0, 0, 1);
    }

    private static void theMeterIsGoneAfterwards() {
        LadderBench bench = Check.benchOf("a+b");
        long before = bench.resistance(0, 0);
        bench.reading(0, 0);
        CHECK.due("resistance", bench.resistance(0, 0), before);
        bench.reading(0, 0);
        CHECK.due("voltage", bench.voltage(0, 0), 6);
        bench.loss(0);
        CHECK.due("voltage", bench.voltage(1, 0), 6);
        bench.worst();
        CHECK.due("folded", bench.folded(0, 0), 10);
        Twins.unchanged(CHECK, "reading", Scenes::rich, x -> x.reading(1, 1), 8);
        Twins.unchanged(CHECK, "reading with a wrong part and half", Scenes::rich, x -> x.reading(7, 2), UNKNOWN);
        Twins.unchanged(CHECK, "reading with a wrong half", Scenes::rich, x -> x.reading(6, 2), BAD_VALUE);
    }

    // The loss: 1000 * x / (x + meter) over a or b of a + b, with x = a * b / (a + b)

    private static void loss(int a, int b, int meter, int due) {
        LadderBench bench = Scenes.after("a+b", "set a " + a, "set b " + b, "meter " + meter);
        CHECK.due("loss of " + a + " and " + b + " ohms, meter " + meter, bench.loss(0), due);
        CHECK.due("loss over the other", bench.loss(1), due);
    }

    private static void theLossIsRoundedDown() {
        loss(2, 2, 999, 1);
        loss(1, 99, 999, 0);
        loss(1, 1, 999, 0);
        loss(2, 3, 999, 1);
        loss(2, 2, 1, 500);
        loss(1, 99, 1, 497);
        loss(2, 3, 1, 545);
        loss(99, 99, 1, 980);
        loss(10, 10, 100, 47);
        loss(8, 8, 996, 4);
        loss(50, 50, 975, 25);
        loss(50, 50, 976, 24);
        loss(50, 50, 974, 25);
        CHECK.due("no loss at all", Check.benchOf("a|b").loss(0), 0);
        CHECK.due("the source does not matter", Scenes.after("a+b", "source 1").loss(0), 47);
        CHECK.due("nor a great one", Scenes.after("a+b", "source 99").loss(0), 47);
    }

    /** "0 if this voltage is 0" */
    private static void theLossIsNoneWithoutVoltage() {
        CHECK.due("a shorted arm", Scenes.after("a+b", "short a").loss(0), 0);
        CHECK.due("beside an open arm", Scenes.after("a+b", "open a").loss(1), 0);
        CHECK.due("a shorted series", Scenes.after("a+b", "short a", "short b").loss(1), 0);
        CHECK.due("within a part without voltage", Scenes.after("a+b|c", "open a").loss(1), 0);
        CHECK.due("an arm alone that is shorted has a voltage", Scenes.after("a", "short a").loss(0), 0);
    }

    private static void allIsLost() {
        LadderBench two = Scenes.after("a+b", "open a", "open b");
        CHECK.due("two open arms, the first", two.loss(0), 1000);
        CHECK.due("two open arms, the second", two.loss(1), 1000);
        CHECK.due("one open arm", Scenes.after("a+b", "open a").loss(0), 90);
        String[] most = {"set a 99", "set b 99", "set c 99", "set d 99", "set e 99", "open f", "meter 1"};
        CHECK.due("nearly all", Scenes.after("a+b+c+d+e+f", most).loss(5), 997);
    }

    private static void lossIsRefused() {
        for (int part : new int[] {-1, 7, 11, Integer.MAX_VALUE, Integer.MIN_VALUE}) {
            Twins.unchanged(CHECK, "loss(" + part + ")", Scenes::rich, x -> x.loss(part), UNKNOWN);
        }
        Twins.unchanged(CHECK, "loss of the first", Scenes::rich, x -> x.loss(0), 62);
        Twins.unchanged(CHECK, "loss of the last", Scenes::rich, x -> x.loss(6), 0);
        CHECK.due("loss without a network", new LadderBench().loss(0), UNKNOWN);
    }

    private static void theWorstIsTheLowestOfSeveral() {
        CHECK.due("no network", new LadderBench().worst(), NONE);
        CHECK.due("one arm", Check.benchOf("a").worst(), 0);
        CHECK.due("none loses", Check.benchOf("a|b|c").worst(), 0);
        CHECK.due("all lose the same", Check.benchOf("a+b+c").worst(), 0);
        CHECK.due("two within lose most", Check.benchOf("a+b|(c+d)").worst(), 2);
        CHECK.due("the last of six", Scenes.after("a+b+c+d+e+f", "set f 30").worst(), 5);
        CHECK.due("the last two of six", Scenes.after("a+b+c+d+e+f", "set f 30", "set e 30").worst(), 4);
        CHECK.due("the one that is open", Scenes.after("a+b+c", "open b").worst(), 1);
        CHECK.due("two that are open", Scenes.after("a+b+c", "open b", "open c").worst(), 1);
        String[] close = {"set a 98", "set b 99", "set c 99", "meter 999"};
        CHECK.due("61.57 and 61.87 thousandths are 61", Scenes.after("a+b+c", close).worst(), 0);
        close[3] = "meter 1";
        CHECK.due("984 and 985 thousandths", Scenes.after("a+b+c", close).worst(), 1);
        Twins.unchanged(CHECK, "worst", Scenes::rich, LadderBench::worst, 3);
        Twins.unchanged(CHECK, "worst without a network", LadderBench::new, LadderBench::worst, NONE);
    }

    // Noted readings

    private static void equalFractionsAreTheSameReading() {
        LadderBench bench = Scenes.after("a+b", "short a");
        CHECK.due("12 volts over b", bench.note(1), 1);
        CHECK.due("12 volts over the whole", bench.note(2), 2);
        CHECK.due("0 volts over a", bench.note(0), 1);
        Check.read(bench, "c|d");
        CHECK.due("12 volts of another network", bench.note(0), 3);
        Check.command(bench, "meter 5");
        CHECK.due("with another meter", bench.note(1), 4);
        Check.read(bench, "c+d");
        Check.command(bench, "open c");
        CHECK.due("0 volts over d", bench.note(1), 2);
        CHECK.due("two readings", bench.count(5), 2);
        CHECK.due("six times", bench.count(6), 6);
        CHECK.dueFraction("the first", bench.noted(0, 0), bench.noted(0, 1), 12, 1);
        CHECK.dueFraction("the second", bench.noted(1, 0), bench.noted(1, 1), 0, 1);
        LadderBench halves = Check.benchOf("a+b");
        CHECK.due("40 / 7", halves.note(0), 1);
        Check.command(halves, "source 40");
        Check.read(halves, "a");
        CHECK.due("40 / 1 has the same upper number", halves.note(0), 1);
        Check.command(halves, "source 12");
        CHECK.due("12 / 1 has the same lower number", halves.note(0), 1);
    }

    private static void inTheOrderNotedFirst() {
        LadderBench bench = Scenes.noted(4);
        Check.command(bench, "source 2");
        CHECK.due("the second once more", bench.note(0), 2);
        Check.command(bench, "source 99");
        CHECK.due("a new one", bench.note(0), 1);
        int[] due = {1, 2, 3, 4, 99};
        for (int number = 0; number < due.length; number++) {
            CHECK.due("noted(" + number + ", 0)", bench.noted(number, 0), due[number]);
            CHECK.due("noted(" + number + ", 1)", bench.noted(number, 1), 1);
            CHECK.due("noted(" + number + ", 2)", bench.noted(number, 2), number == 1 ? 2 : 1);
        }
    }

    private static LadderBench notedAndNext(int readings, int source) {
        LadderBench bench = Scenes.noted(readings);
        Check.command(bench, "source " + source);
        return bench;
    }

    /** "at most 20 different ones" */
    private static void atMostTwentyReadings() {
        Twins.recorded(CHECK, "the 19th reading", () -> notedAndNext(18, 50), x -> x.note(0), 1);
        Twins.recorded(CHECK, "the 20th reading", () -> notedAndNext(19, 50), x -> x.note(0), 1);
        Twins.unchanged(CHECK, "the 21st reading", () -> notedAndNext(20, 50), x -> x.note(0), NOT_POSSIBLE);
        Twins.recorded(CHECK, "the 20th once more", () -> Scenes.noted(20), x -> x.note(0), 2);
        Twins.recorded(CHECK, "the first once more", () -> notedAndNext(20, 1), x -> x.note(0), 2);
        LadderBench bench = notedAndNext(20, 50);
        CHECK.due("20 readings", bench.count(5), 20);
        CHECK.due("20 times", bench.count(6), 20);
        CHECK.due("the 20th", bench.noted(19, 0), 20);
        CHECK.due("no 21st", bench.noted(20, 0), NONE);
        CHECK.due("the 21st", bench.note(0), NOT_POSSIBLE);
        CHECK.due("still no 21st", bench.noted(20, 0), NONE);
        bench.undo();
        bench.undo();
        CHECK.due("one is taken back", bench.count(5), 19);
        Check.command(bench, "source 50");
        CHECK.due("there is room for one", bench.note(0), 1);
        Check.command(bench, "source 51");
        CHECK.due("not for two", bench.note(0), NOT_POSSIBLE);
    }

    private static void noteIsAnAct() {
        Twins.recorded(CHECK, "note of a new one", Scenes::rich, x -> x.note(6), 1);
        Twins.recorded(CHECK, "note of a known one", Scenes::rich, x -> x.note(2), 2);
        Twins.recorded(CHECK, "note of the first", () -> Check.benchOf("a"), x -> x.note(0), 1);
        Twins.recorded(CHECK, "note once more", () -> Scenes.noted(1), x -> x.note(0), 2);
    }

    private static void noteIsRefused() {
        for (int part : new int[] {-1, 7, 11, Integer.MAX_VALUE, Integer.MIN_VALUE}) {
            Twins.unchanged(CHECK, "note(" + part + ")", Scenes::rich, x -> x.note(part), UNKNOWN);
        }
        Twins.unchanged(CHECK, "no part, and no room", () -> notedAndNext(20, 50), x -> x.note(1), UNKNOWN);
        Twins.unchanged(CHECK, "no part, and no room", () -> notedAndNext(20, 50), x -> x.note(-1), UNKNOWN);
        Twins.unchanged(CHECK, "note without a network", LadderBench::new, x -> x.note(0), UNKNOWN);
    }

    private static void notedIsRefused() {
        for (int what = 0; what <= 2; what++) {
            LadderBench bench = Scenes.noted(3);
            CHECK.due("noted(0, " + what + ")", bench.noted(0, what), 1);
            CHECK.due("noted(2, " + what + ")", bench.noted(2, what), what == 0 ? 3 : 1);
            CHECK.due("noted(3, " + what + ")", bench.noted(3, what), NONE);
            CHECK.due("noted(19, " + what + ")", bench.noted(19, what), NONE);
            CHECK.due("noted(20, " + what + ")", bench.noted(20, what), NONE);
            CHECK.due("noted(21, " + what + ")", bench.noted(21, what), NONE);
            CHECK.due("noted(greatest, " + what + ")", bench.noted(Integer.MAX_VALUE, what), NONE);
            CHECK.due("noted(-1, " + what + ")", bench.noted(-1, what), BAD_VALUE);
            CHECK.due("noted(least, " + what + ")", bench.noted(Integer.MIN_VALUE, what), BAD_VALUE);
        }
        for (int what : new int[] {-1, 3, Integer.MAX_VALUE, Integer.MIN_VALUE}) {
            for (int number : new int[] {-1, 0, 2, 3, 20}) {
                CHECK.due("noted(" + number + ", " + what + ")", Scenes.noted(3).noted(number, what), BAD_VALUE);
            }
        }
        CHECK.due("none at first", new LadderBench().noted(0, 2), NONE);
        CHECK.due("wrong ahead of none", new LadderBench().noted(0, 3), BAD_VALUE);
        Twins.unchanged(CHECK, "noted", Scenes::rich, x -> x.noted(1, 2), 1);
        Twins.unchanged(CHECK, "noted behind the last", Scenes::rich, x -> x.noted(2, 2), NONE);
        Twins.unchanged(CHECK, "noted ahead of the first", Scenes::rich, x -> x.noted(-1, 2), BAD_VALUE);
    }
}
