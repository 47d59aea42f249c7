/** Promises 1 to 5: a new object, type, clearText, readNetwork, perform. */
public final class TextsTest {
    private static final Check CHECK = new Check();

    public static void main(String[] args) {
        aNewObject();
        constants();
        type();
        clearText();
        faultsOfNetworks();
        partsOfNetworks();
        readNetworkKeepsTheRest();
        faultsOfCommands();
        performArms();
        performSourceAndMeter();
        performUnfolds();
        CHECK.finish("TextsTest");
    }

    private static void aNewObject() {
        LadderBench bench = new LadderBench();
        int[] counts = {0, 0, 0, 12, 100, 0, 0, 0, 0, 0, 0};
        for (int what = 0; what < counts.length; what++) {
            CHECK.due("1: count(" + what + ")", bench.count(what), counts[what]);
        }
        CHECK.due("1: part(0, 0)", bench.part(0, 0), LadderBench.UNKNOWN);
        CHECK.due("1: arm('a', 0)", bench.arm('a', 0), LadderBench.UNKNOWN);
        CHECK.due("1: resistance(0, 0)", bench.resistance(0, 0), LadderBench.UNKNOWN);
        CHECK.due("1: foldAll", bench.foldAll(false), LadderBench.NONE);
        CHECK.due("1: undo", bench.undo(), LadderBench.NONE);
        CHECK.due("1: restore", bench.restore(), LadderBench.NONE);
        CHECK.due("1: worst", bench.worst(), LadderBench.NONE);
        CHECK.due("1: fault", bench.fault(1, 1, 0), LadderBench.NOT_POSSIBLE);
        CHECK.due("1: noted", bench.noted(0, 0), LadderBench.NONE);
        CHECK.due("1: readNetwork", bench.readNetwork(), -100);
        CHECK.due("1: perform", bench.perform(), -100);
        CHECK.due("1: clearText", bench.clearText(), 0);
    }

    private static void constants() {
        CHECK.due("UNKNOWN", LadderBench.UNKNOWN, -1);
        CHECK.due("BAD_VALUE", LadderBench.BAD_VALUE, -2);
        CHECK.due("NOT_POSSIBLE", LadderBench.NOT_POSSIBLE, -3);
        CHECK.due("NONE", LadderBench.NONE, -4);
    }

    private static void type() {
        LadderBench bench = new LadderBench();
        CHECK.due("2: any character", bench.type((char) 0), 1);
        CHECK.due("2: any character", bench.type((char) 65535), 2);
        CHECK.due("2: any character", bench.type(' '), 3);
        for (int length = 4; length <= 40; length++) {
            CHECK.due("2: type", bench.type('x'), length);
        }
        CHECK.due("2: the 41st", bench.type('x'), LadderBench.NOT_POSSIBLE);
        CHECK.due("2: length", bench.count(9), 40);
        CHECK.due("2: no act", bench.count(8), 0);
    }

    private static void clearText() {
        LadderBench bench = Check.benchOf("a+b");
        CHECK.due("3: clearText", bench.clearText(), 3);
        CHECK.due("3: length", bench.count(9), 0);
        CHECK.due("3: again", bench.clearText(), 0);
        CHECK.due("3: no act", bench.count(8), 1);
        CHECK.due("3: empty now", bench.readNetwork(), -100);
        bench.type('c');
        CHECK.due("3: undo", bench.undo(), 0);
        CHECK.due("3: the text is not in a state", bench.count(9), 1);
    }

    private static void faultsOfNetworks() {
        network("", -100);
        network("a", 1);
        network("f", 1);
        network("g", -100);
        network("A", -100);
        network("`", -100);
        network(" a", -100);
        network("a b", -101);
        network("ab", -101);
        network("a(b)", -101);
        network("(a)b", -103);
        network("(a)(b)", -103);
        network("a+", -102);
        network("a|", -102);
        network("+a", -100);
        network("|", -100);
        network("a||b", -102);
        network("a+|b", -102);
        network("a+b|", -104);
        network("a+a", -102);
        network("(a|b)+(c+b)", -109);
        network("a)", -101);
        network(")", -100);
        network("(a))", -103);
        network("()", -101);
        network("(+a)", -101);
        network("(a+)", -103);
        network("(", -101);
        network("(a", -102);
        network("((a)", -104);
        network("a+b+c+d+e+f", 7);
        network("a+b+c+d+e+f+", -112);
        network("a+b+c+d+e+f+(", -113);
        network("a+b+c+d+e+f+a", -112);
        network("a\u0161", -101);
        network("((((((((((((((((((((((((((((((((((((((((", -140);
        network("(((((((((((((((((((a)))))))))))))))))))", 1);
        network("(((((((((((((((((((a+b))))))))))))))))))", -140);
        network("((((((((((((((((((a+b))))))))))))))))))", 3);
    }

    private static void network(String text, int due) {
        LadderBench bench = Check.benchOf("a|(b+c)");
        Check.write(bench, text);
        CHECK.due("4: readNetwork of " + text, bench.readNetwork(), due);
        CHECK.due("4: the text stays, " + text, bench.count(9), text.length());
        CHECK.due("4: parts of " + text, bench.count(0), due > 0 ? due : 5);
        CHECK.due("4: states after " + text, bench.count(8), due > 0 ? 2 : 1);
    }

    /** For each part: its kind, the part around it, and its letter or '-'. */
    private static void parts(String text, String kinds, int[] around, String letters) {
        LadderBench bench = Check.benchOf(text);
        CHECK.due("parts of " + text, bench.count(0), kinds.length());
        for (int part = 0; part < kinds.length(); part++) {
            String call = text + ", part " + part;
            char letter = letters.charAt(part);
            CHECK.due(call + " kind", bench.part(part, 0), "asp".indexOf(kinds.charAt(part)));
            CHECK.due(call + " around", bench.part(part, 3), around[part]);
            CHECK.due(call + " letter", bench.part(part, 4), letter == '-' ? LadderBench.NONE : letter);
        }
    }

    private static void partsOfNetworks() {
        int none = LadderBench.NONE;
        parts("c", "a", new int[] {none}, "c");
        parts("((c))", "a", new int[] {none}, "c");
        parts("b+a", "aas", new int[] {2, 2, none}, "ba-");
        parts("b|a", "aap", new int[] {2, 2, none}, "ba-");
        parts("a+b|(c+d)", "aaaasps", new int[] {6, 5, 4, 4, 5, 6, none}, "abcd---");
        parts("(a|b)|(c+d)+e", "aapaaspas", new int[] {2, 2, 6, 5, 5, 6, 8, 8, none}, "ab-cd--e-");
        parts("a+(b+c)", "aaass", new int[] {4, 3, 3, 4, none}, "abc--");
        parts("a|b+c|d", "aapaaps", new int[] {2, 2, 6, 5, 5, 6, none}, "ab-cd--");
        parts("((a)+(b))|((c|d))", "aasaapp", new int[] {2, 2, 6, 5, 5, 6, none}, "ab-cd--");
        parts("a+(b|(c+(d|(e+f))))", "aaaaaaspsps",
                new int[] {10, 9, 8, 7, 6, 6, 7, 8, 9, 10, none}, "abcdef-----");
        parts("a+b+c+d+e+f", "aaaaaas", new int[] {6, 6, 6, 6, 6, 6, none}, "abcdef-");
    }

    private static void readNetworkKeepsTheRest() {
        LadderBench bench = Check.benchOf("a+b");
        Check.command(bench, "set a 7");
        Check.command(bench, "open b");
        Check.command(bench, "source 9");
        Check.command(bench, "meter 5");
        bench.foldAll(false);
        bench.note(2);
        CHECK.due("4: readNetwork", Check.read(bench, "b|a"), 3);
        CHECK.due("4: value", bench.arm('a', 0), 10);
        CHECK.due("4: state", bench.arm('b', 1), 0);
        CHECK.due("4: not sound", bench.count(10), 0);
        CHECK.due("4: source", bench.count(3), 9);
        CHECK.due("4: meter", bench.count(4), 5);
        CHECK.due("4: noted", bench.noted(0, 0), 9);
        CHECK.due("4: folds stay", bench.count(7), 1);
        CHECK.due("4: unfolded", bench.part(2, 2), 0);
        bench.foldAll(false);
        CHECK.due("4: the same is read again", bench.readNetwork(), 3);
        CHECK.due("4: unfolded by this too", bench.count(2), 1);
        CHECK.due("4: one network only", Check.read(bench, "c"), 1);
        CHECK.due("4: a is gone", bench.arm('a', 0), LadderBench.UNKNOWN);
        CHECK.due("4: a part is gone", bench.part(1, 0), LadderBench.UNKNOWN);
        CHECK.due("4: undo", bench.undo() >= 0 ? bench.count(0) : -1, 3);
    }

    private static void faultsOfCommands() {
        perform("", -100);
        perform(" ", -100);
        perform(" open a", -100);
        perform("ope", -100);
        perform("opens a", -100);
        perform("Open a", -100);
        perform("opena", -100);
        perform("a", -100);
        perform("open", -104);
        perform("open ", -105);
        perform("open  a", -105);
        perform("open g", -105);
        perform("open A", -105);
        perform("open ab", -105);
        perform("open a ", -106);
        perform("open a b", -106);
        perform("open 5", -105);
        perform("set", -103);
        perform("set ", -104);
        perform("set a", -105);
        perform("set a ", -106);
        perform("set  a 5", -104);
        perform("set a  5", -106);
        perform("set 5 a", -104);
        perform("set a 0", -106);
        perform("set a 05", -106);
        perform("set a 100", -106);
        perform("set a 1000", -106);
        perform("set a 5x", -106);
        perform("set a x", -106);
        perform("set a -5", -106);
        perform("set a 5 ", -107);
        perform("set a 5 5", -107);
        perform("set a 5/", -106);
        perform("set a 5:", -106);
        perform("source", -106);
        perform("source ", -107);
        perform("source a", -107);
        perform("source a 5", -107);
        perform("source 0", -107);
        perform("source 100", -107);
        perform("source 5 ", -108);
        perform("source 5 5", -108);
        perform("source\t5", -100);
        perform("meter 0", -106);
        perform("meter 1000", -106);
        perform("meter 010", -106);
        perform("meter 4294967301", -106);
        perform("set a 4294967301", -106);
        perform("source 18446744073709551621", -107);
        perform("source 111111111111111111111111111111111", -107);
        perform("set a\u00a05", -104);
        perform("meter 10 0", -108);
        perform("short", -105);
        perform("mend", -104);
        perform("mend a+b", -105);
        perform("a+b", -100);
        perform("open b", 1);
        perform("short a", 1);
        perform("set a 99", 1);
        perform("set a 1", 1);
        perform("source 99", 1);
        perform("source 1", 1);
        perform("meter 999", 1);
        perform("meter 1", 1);
        perform("open f", LadderBench.UNKNOWN);
        perform("set c 10", LadderBench.UNKNOWN);
        perform("mend c", LadderBench.UNKNOWN);
        perform("short e", LadderBench.UNKNOWN);
        perform("set a 10", LadderBench.NONE);
        perform("mend a", LadderBench.NONE);
        perform("source 12", LadderBench.NONE);
        perform("meter 100", LadderBench.NONE);
    }

    private static void perform(String text, int due) {
        LadderBench bench = Check.benchOf("a+b");
        Check.write(bench, text);
        CHECK.due("5: perform of '" + text + "'", bench.perform(), due);
        CHECK.due("5: the text stays, '" + text + "'", bench.count(9), text.length());
        CHECK.due("5: states after '" + text + "'", bench.count(8), due == 1 ? 2 : 1);
        if (due == 1) {
            CHECK.due("5: so already, '" + text + "'", bench.perform(), LadderBench.NONE);
        }
    }

    private static void performArms() {
        LadderBench bench = Check.benchOf("a+b");
        CHECK.due("5: open", Check.command(bench, "open a"), 1);
        CHECK.due("5: is open", bench.arm('a', 1), 1);
        CHECK.due("5: short", Check.command(bench, "short a"), 1);
        CHECK.due("5: is shorted", bench.arm('a', 1), 2);
        CHECK.due("5: set", Check.command(bench, "set a 33"), 1);
        CHECK.due("5: its state stays", bench.arm('a', 1), 2);
        CHECK.due("5: is 33", bench.arm('a', 0), 33);
        CHECK.due("5: mend", Check.command(bench, "mend a"), 1);
        CHECK.due("5: is sound", bench.arm('a', 1), 0);
        CHECK.due("5: value stays", bench.arm('a', 0), 33);
        CHECK.due("5: b is as it was", 100 * bench.arm('b', 0) + bench.arm('b', 1), 1000);
    }

    private static void performSourceAndMeter() {
        LadderBench bench = new LadderBench();
        CHECK.due("5: source", Check.command(bench, "source 99"), 1);
        CHECK.due("5: meter", Check.command(bench, "meter 999"), 1);
        CHECK.due("5: count(3)", bench.count(3), 99);
        CHECK.due("5: count(4)", bench.count(4), 999);
        CHECK.due("5: states", bench.count(8), 2);
        CHECK.due("5: no arm without a network", Check.command(bench, "open a"), LadderBench.UNKNOWN);
    }

    private static void performUnfolds() {
        String[] changes = {"set a 9", "open a", "short a", "set b 5", "mend b"};
        for (String change : changes) {
            LadderBench bench = Check.benchOf("a|b");
            Check.command(bench, "open b");
            bench.foldAll(false);
            Check.command(bench, change);
            CHECK.due("5: unfolded by " + change, bench.part(2, 2), 0);
            CHECK.due("5: arms stay folded, " + change, bench.count(2), 1);
        }
        String[] others = {"source 9", "meter 9", "open b", "mend a", "set a 10", "open c", "open"};
        for (String other : others) {
            LadderBench bench = Check.benchOf("a|b");
            Check.command(bench, "open b");
            bench.foldAll(false);
            Check.command(bench, other);
            CHECK.due("5: not unfolded by " + other, bench.part(2, 2), 1);
        }
    }
}
