/** Promises 9 to 12: note, undo, keep, restore. */
public final class HistoryTest {
    private static final Check CHECK = new Check();

    public static void main(String[] args) {
        note();
        twentyReadings();
        undo();
        undoOfEachAct();
        keepAndRestore();
        CHECK.finish("HistoryTest");
    }

    private static void note() {
        LadderBench bench = Check.benchOf("a+b|(c+d)");
        CHECK.due("9: note(-1)", bench.note(-1), LadderBench.UNKNOWN);
        CHECK.due("9: note(7)", bench.note(7), LadderBench.UNKNOWN);
        CHECK.due("9: c", bench.note(2), 1);
        CHECK.due("9: d is the same", bench.note(3), 2);
        CHECK.due("9: the whole", bench.note(6), 1);
        CHECK.due("9: c again", bench.note(2), 3);
        CHECK.dueFraction("9: first", bench.noted(0, 0), bench.noted(0, 1), 120, 53);
        CHECK.dueFraction("9: second", bench.noted(1, 0), bench.noted(1, 1), 12, 1);
        CHECK.due("9: times", bench.noted(0, 2), 3);
        CHECK.due("9: readings", bench.count(5), 2);
        CHECK.due("9: all times", bench.count(6), 4);
        CHECK.due("9: states", bench.count(8), 5);
        bench.undo();
        CHECK.due("9: undone", bench.noted(0, 2), 2);
    }

    private static void twentyReadings() {
        LadderBench bench = Check.benchOf("a");
        for (int volts = 1; volts <= 20; volts++) {
            Check.command(bench, "source " + volts);
            CHECK.due("9: a new one", bench.note(0), 1);
        }
        Check.command(bench, "source 21");
        bench.undo();
        CHECK.due("9: states ahead", bench.count(8), 4);
        Check.command(bench, "source 21");
        CHECK.due("9: the 21st", bench.note(0), LadderBench.NOT_POSSIBLE);
        CHECK.due("9: 20 readings", bench.count(5), 20);
        CHECK.due("9: nothing is recorded", bench.undo(), 4);
        CHECK.due("9: the last again", bench.note(0), 2);
        Check.command(bench, "source 1");
        CHECK.due("9: the first again", bench.note(0), 2);
        CHECK.due("9: all times", bench.count(6), 22);
        CHECK.due("9: the last", bench.noted(19, 0), 20);
    }

    private static void undo() {
        LadderBench bench = new LadderBench();
        CHECK.due("10: empty", bench.undo(), LadderBench.NONE);
        for (int volts = 1; volts <= 7; volts++) {
            Check.command(bench, "source " + volts);
        }
        CHECK.due("10: five at most", bench.count(8), 5);
        for (int left = 4; left >= 0; left--) {
            CHECK.due("10: undo", bench.undo(), left);
            CHECK.due("10: source", bench.count(3), left + 2);
        }
        CHECK.due("10: the oldest are dropped", bench.undo(), LadderBench.NONE);
        CHECK.due("10: source", bench.count(3), 2);
        Check.command(bench, "source 50");
        CHECK.due("10: one again", bench.count(8), 1);
        CHECK.due("10: back", bench.undo(), 0);
        CHECK.due("10: source", bench.count(3), 2);
    }

    private static void undoOfEachAct() {
        LadderBench bench = Check.benchOf("a+b");
        Check.command(bench, "open a");
        bench.foldAll(true);
        Check.read(bench, "c|d|e");
        bench.note(0);
        bench.undo();
        CHECK.due("10: no reading", bench.count(5), 0);
        bench.undo();
        CHECK.due("10: the network of before", bench.part(2, 0), 1);
        CHECK.due("10: its arms", bench.arm('a', 2) + 10 * bench.arm('b', 2), 10);
        CHECK.due("10: not the other's", bench.arm('c', 0), LadderBench.UNKNOWN);
        CHECK.due("10: state of a", bench.arm('a', 1), 1);
        CHECK.due("10: folded", bench.folded(2, 1), 0);
        CHECK.due("10: the text stays", bench.count(9), 5);
        bench.undo();
        CHECK.due("10: not folded", bench.folded(2, 1), LadderBench.NONE);
        CHECK.due("10: folds of then", bench.count(7), 0);
        bench.undo();
        CHECK.due("10: a was sound", bench.arm('a', 1), 0);
        CHECK.due("10: none left", bench.undo(), 0);
        CHECK.due("10: no network", bench.count(0), 0);
    }

    private static void keepAndRestore() {
        LadderBench bench = new LadderBench();
        CHECK.due("12: no snapshot", bench.restore(), LadderBench.NONE);
        CHECK.due("12: nothing is recorded", bench.count(8), 0);
        CHECK.due("11: keep without a network", bench.keep(), 0);
        CHECK.due("11: keep is no act", bench.count(8), 0);
        Check.read(bench, "a+b");
        CHECK.due("12: back to none", bench.restore(), 0);
        CHECK.due("12: recorded", bench.count(8), 2);
        CHECK.due("12: undo of restore", bench.undo(), 1);
        CHECK.due("12: parts", bench.count(0), 3);
        Check.command(bench, "set b 20");
        bench.foldAll(false);
        bench.note(1);
        CHECK.due("11: keep", bench.keep(), 3);
        Check.command(bench, "short b");
        Check.command(bench, "source 3");
        Check.command(bench, "meter 3");
        bench.note(1);
        CHECK.due("12: restore", bench.restore(), 3);
        CHECK.due("12: value", bench.arm('b', 0), 20);
        CHECK.due("12: state", bench.arm('b', 1), 0);
        CHECK.due("12: source and meter", bench.count(3) + bench.count(4), 112);
        CHECK.due("12: noted", bench.count(6), 1);
        CHECK.due("12: folded", bench.folded(2, 0), 30);
        CHECK.due("12: the text stays", bench.count(9), 7);
        CHECK.due("12: the history stays", bench.count(8), 5);
        Check.command(bench, "set b 5");
        CHECK.due("12: the snapshot stays", bench.restore(), 3);
        CHECK.due("12: value", bench.arm('b', 0), 20);
        bench.undo();
        CHECK.due("12: undone", bench.arm('b', 0), 5);
        bench.keep();
        Check.command(bench, "set b 6");
        bench.restore();
        CHECK.due("11: in place of the one that was", bench.arm('b', 0), 5);
    }
}
