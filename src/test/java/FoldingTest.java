/** Promises 6 to 8: fold, foldAll, unfold. */
public final class FoldingTest {
    private static final Check CHECK = new Check();
    private static final String NETWORK = "a+b|(c+d)";

    public static void main(String[] args) {
        fold();
        foldAll();
        unfold();
        CHECK.finish("FoldingTest");
    }

    private static void fold() {
        LadderBench bench = Check.benchOf(NETWORK);
        CHECK.due("6: fold(-1)", bench.fold(-1), LadderBench.UNKNOWN);
        CHECK.due("6: fold(7)", bench.fold(7), LadderBench.UNKNOWN);
        CHECK.due("6: fold(least)", bench.fold(Integer.MIN_VALUE), LadderBench.UNKNOWN);
        CHECK.due("6: fold(6)", bench.fold(6), LadderBench.NOT_POSSIBLE);
        CHECK.due("6: fold(5)", bench.fold(5), LadderBench.NOT_POSSIBLE);
        CHECK.due("6: an arm", bench.fold(0), LadderBench.NONE);
        CHECK.due("6: nothing is recorded", bench.count(8), 1);
        CHECK.due("6: fold(4)", bench.fold(4), 2);
        CHECK.due("6: again", bench.fold(4), LadderBench.NONE);
        CHECK.due("6: fold(6)", bench.fold(6), LadderBench.NOT_POSSIBLE);
        CHECK.due("6: fold(5)", bench.fold(5), 1);
        CHECK.due("6: fold(6)", bench.fold(6), 0);
        CHECK.due("6: folds", bench.count(7), 3);
        CHECK.due("6: states", bench.count(8), 4);
        CHECK.due("6: undo", bench.undo(), 3);
        CHECK.due("6: the whole is unfolded", bench.part(6, 2), 0);
        CHECK.due("6: the folds of before", bench.count(7), 2);
    }

    private static void foldAll() {
        LadderBench bench = Check.benchOf(NETWORK);
        CHECK.due("7: all", bench.foldAll(false), 3);
        CHECK.due("7: none", bench.foldAll(false), LadderBench.NONE);
        CHECK.due("7: unfolded", bench.count(2), 0);
        CHECK.due("7: folds", bench.count(7), 3);
        CHECK.due("7: one act", bench.count(8), 2);
        CHECK.due("7: undo", bench.undo(), 1);
        CHECK.due("7: all are back", bench.count(2), 3);
        bench.fold(4);
        CHECK.due("7: the rest, the greatest first", bench.foldAll(true), 2);
        CHECK.due("7: none", bench.foldAll(true), LadderBench.NONE);
        CHECK.due("7: folds", bench.count(7), 3);
        LadderBench arm = Check.benchOf("a");
        CHECK.due("7: an arm alone", arm.foldAll(true), LadderBench.NONE);
        CHECK.due("7: not recorded", arm.count(8), 1);
        CHECK.due("7: no network", new LadderBench().foldAll(false), LadderBench.NONE);
        LadderBench deep = Check.benchOf("a+(b|(c+(d|(e+f))))");
        CHECK.due("7: a deep one", deep.foldAll(true), 5);
    }

    private static void unfold() {
        LadderBench bench = Check.benchOf(NETWORK);
        CHECK.due("8: unfold(-1)", bench.unfold(-1), LadderBench.UNKNOWN);
        CHECK.due("8: unfold(7)", bench.unfold(7), LadderBench.UNKNOWN);
        CHECK.due("8: an arm", bench.unfold(3), LadderBench.NOT_POSSIBLE);
        CHECK.due("8: not folded", bench.unfold(4), LadderBench.NONE);
        CHECK.due("8: nothing is recorded", bench.count(8), 1);
        bench.foldAll(false);
        CHECK.due("8: the whole", bench.unfold(6), 1);
        CHECK.due("8: what is within stays", bench.part(5, 2), 1);
        CHECK.due("8: states", bench.count(8), 3);
        CHECK.due("8: folds stay counted", bench.count(7), 3);
        CHECK.due("8: and all around", bench.unfold(4), 2);
        CHECK.due("8: unfolded", bench.count(2), 3);
        bench.foldAll(false);
        CHECK.due("8: folds again", bench.count(7), 6);
        CHECK.due("8: three of three", bench.unfold(4), 3);
        LadderBench pair = Check.benchOf("a|b+c|d");
        pair.foldAll(false);
        CHECK.due("8: not beside", pair.unfold(2), 2);
        CHECK.due("8: the other stays", pair.part(5, 2), 1);
    }
}
