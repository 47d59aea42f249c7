/** The edges of promises 6 to 8 and of the term FOLDING. */
public final class EdgeFoldingTest {
    private static final Check CHECK = new Check();
    private static final int UNKNOWN = LadderBench.UNKNOWN;
    private static final int NOT_POSSIBLE = LadderBench.NOT_POSSIBLE;
    private static final int NONE = LadderBench.NONE;
    /** 11 parts: the arms a to f are 0 to 5, and 6 to 10 stand around one another. */
    private static final String DEEP = "a|(b+c|(d+(e|f)))";
    /** 10 parts: a 0, b 1, a|b 2, c 3, d 4, c|d 5, e 6, f 7, e|f 8, the whole 9. */
    private static final String BROAD = "a|b+c|d+e|f";

    public static void main(String[] args) {
        armsAreFoldedFromTheBeginning();
        aPartWhosePartsAreAllFolded();
        aFoldedValueIsTheResistance();
        foldIsAnAct();
        foldIsRefused();
        foldAllFoldsTheRest();
        foldAllOfNone();
        unfoldAndAllAround();
        unfoldIsAnAct();
        unfoldIsRefused();
        whatUnfolds();
        whatUnfoldsNothing();
        foldsAreCounted();
        CHECK.finish("EdgeFoldingTest");
    }

    private static String foldedParts(LadderBench bench) {
        StringBuilder folded = new StringBuilder();
        for (int part = 0; part < bench.count(0); part++) {
            folded.append(bench.part(part, 2));
        }
        return folded.toString();
    }

    private static String foldableParts(LadderBench bench) {
        StringBuilder foldable = new StringBuilder();
        for (int part = 0; part < bench.count(0); part++) {
            foldable.append(bench.part(part, 6));
        }
        return foldable.toString();
    }

    private static LadderBench foldedOf(String network) {
        LadderBench bench = Check.benchOf(network);
        bench.foldAll(false);
        return bench;
    }

    private static void armsAreFoldedFromTheBeginning() {
        CHECK.dueText("one arm", foldedParts(Check.benchOf("a")), "1");
        CHECK.dueText("two arms", foldedParts(Check.benchOf("a+b")), "110");
        CHECK.dueText("eleven parts", foldedParts(Check.benchOf(DEEP)), "11111100000");
        CHECK.dueText("ten parts", foldedParts(Check.benchOf(BROAD)), "1101101100");
        CHECK.due("unfolded: none of one", Check.benchOf("a").count(2), 0);
        CHECK.due("unfolded: one of three", Check.benchOf("a+b").count(2), 1);
        CHECK.due("unfolded: five of eleven", Check.benchOf(DEEP).count(2), 5);
        CHECK.due("arms are not folds", Check.benchOf(DEEP).count(7), 0);
    }

    /** "A series or parallel part can be folded if all of its parts are folded" */
    private static void aPartWhosePartsAreAllFolded() {
        LadderBench bench = Check.benchOf(BROAD);
        CHECK.dueText("the three within", foldableParts(bench), "0010010010");
        CHECK.due("the whole, none of three", bench.fold(9), NOT_POSSIBLE);
        CHECK.due("the middle one", bench.fold(5), 3);
        CHECK.due("the whole, one of three", bench.fold(9), NOT_POSSIBLE);
        CHECK.due("the first one", bench.fold(2), 2);
        CHECK.due("the whole, two of three", bench.fold(9), NOT_POSSIBLE);
        CHECK.dueText("not yet the whole", foldableParts(bench), "0000000010");
        CHECK.due("the last one", bench.fold(8), 1);
        CHECK.dueText("now the whole", foldableParts(bench), "0000000001");
        CHECK.due("the whole, three of three", bench.fold(9), 0);
        CHECK.dueText("nothing is left", foldableParts(bench), "0000000000");
        CHECK.due("the whole again", bench.fold(9), NONE);
        LadderBench deep = Check.benchOf(DEEP);
        for (int part = 6; part <= 10; part++) {
            for (int later = part + 1; later <= 10; later++) {
                CHECK.due("too early, " + later + " ahead of " + part, deep.fold(later), NOT_POSSIBLE);
            }
            CHECK.due("one alone can be folded", foldableParts(deep).indexOf('1'), part);
            CHECK.due("part " + part, deep.fold(part), 10 - part);
        }
    }

    /** "its folded value is its resistance" */
    private static void aFoldedValueIsTheResistance() {
        LadderBench bench = Scenes.after("a|b+c", "open a", "short b");
        CHECK.dueFraction("an open arm", bench.folded(0, 0), bench.folded(0, 1), 1, 0);
        CHECK.dueFraction("a shorted arm", bench.folded(1, 0), bench.folded(1, 1), 0, 1);
        CHECK.dueFraction("a sound arm", bench.folded(3, 0), bench.folded(3, 1), 10, 1);
        CHECK.dueFraction("not folded", bench.folded(2, 0), bench.folded(2, 1), NONE, NONE);
        bench.fold(2);
        CHECK.dueFraction("0 ohms", bench.folded(2, 0), bench.folded(2, 1), 0, 1);
        CHECK.dueFraction("not folded", bench.folded(4, 0), bench.folded(4, 1), NONE, NONE);
        bench.fold(4);
        CHECK.dueFraction("the whole", bench.folded(4, 0), bench.folded(4, 1), 10, 1);
        LadderBench open = Scenes.after("a+b", "open b");
        open.fold(2);
        CHECK.dueFraction("infinite", open.folded(2, 0), open.folded(2, 1), 1, 0);
        CHECK.due("what -1", open.folded(2, -1), LadderBench.BAD_VALUE);
        CHECK.due("what 2", open.folded(2, 2), LadderBench.BAD_VALUE);
        CHECK.due("what 2 ahead of not folded", Check.benchOf("a+b").folded(2, 2), LadderBench.BAD_VALUE);
        CHECK.due("no part ahead of what 2", open.folded(3, 2), UNKNOWN);
    }

    private static void foldIsAnAct() {
        Twins.recorded(CHECK, "fold", Scenes::rich, x -> x.fold(5), 1);
        Twins.recorded(CHECK, "fold of the first", () -> Check.benchOf(DEEP), x -> x.fold(6), 4);
        Twins.recorded(CHECK, "fold of the whole", () -> Check.benchOf("a+b"), x -> x.fold(2), 0);
        Twins.recorded(CHECK, "fold of one beside", () -> Check.benchOf(BROAD), x -> x.fold(8), 3);
    }

    private static void foldIsRefused() {
        for (int part : new int[] {-1, 7, 11, Integer.MAX_VALUE, Integer.MIN_VALUE}) {
            Twins.unchanged(CHECK, "fold(" + part + ")", Scenes::rich, x -> x.fold(part), UNKNOWN);
        }
        Twins.unchanged(CHECK, "fold of one whose part is not folded", Scenes::rich, x -> x.fold(6), NOT_POSSIBLE);
        for (int part = 0; part <= 4; part++) {
            int folded = part;
            Twins.unchanged(CHECK, "fold of one that is folded", Scenes::rich, x -> x.fold(folded), NONE);
        }
        Twins.unchanged(CHECK, "fold of the whole that is folded", Scenes::foldedWhole, x -> x.fold(6), NONE);
        Twins.unchanged(CHECK, "fold of an arm alone", () -> Check.benchOf("a"), x -> x.fold(0), NONE);
        Twins.unchanged(CHECK, "fold behind an arm alone", () -> Check.benchOf("a"), x -> x.fold(1), UNKNOWN);
    }

    private static void foldAllFoldsTheRest() {
        for (boolean greatest : new boolean[] {false, true}) {
            Twins.recorded(CHECK, "foldAll of one", () -> Check.benchOf("a+b"), x -> x.foldAll(greatest), 1);
            Twins.recorded(CHECK, "foldAll of five", () -> Check.benchOf(DEEP), x -> x.foldAll(greatest), 5);
            Twins.recorded(CHECK, "foldAll of four", () -> Check.benchOf(BROAD), x -> x.foldAll(greatest), 4);
            Twins.recorded(CHECK, "foldAll of the rest", Scenes::rich, x -> x.foldAll(greatest), 2);
            LadderBench bench = Check.benchOf(BROAD);
            bench.fold(5);
            CHECK.due("all but one of four", bench.foldAll(greatest), 3);
            CHECK.dueText("all are folded", foldedParts(bench), "1111111111");
            CHECK.due("none is left", bench.count(2), 0);
            CHECK.due("each is counted", bench.count(7), 4);
            CHECK.due("it is one act", bench.count(8), 3);
            bench.undo();
            CHECK.dueText("undone in one", foldedParts(bench), "1101111100");
        }
    }

    private static void foldAllOfNone() {
        for (boolean greatest : new boolean[] {false, true}) {
            Twins.unchanged(CHECK, "foldAll of none", Scenes::foldedWhole, x -> x.foldAll(greatest), NONE);
            Twins.unchanged(CHECK, "foldAll of an arm", () -> Check.benchOf("a"), x -> x.foldAll(greatest), NONE);
            Twins.unchanged(CHECK, "foldAll without a network", LadderBench::new, x -> x.foldAll(greatest), NONE);
        }
    }

    /** "Unfolds a part, and all parts around it." */
    private static void unfoldAndAllAround() {
        for (int part = 6; part <= 10; part++) {
            LadderBench bench = foldedOf(DEEP);
            CHECK.due("unfold(" + part + ")", bench.unfold(part), 11 - part);
            CHECK.dueText("from " + part + " on", foldedParts(bench), "1".repeat(part) + "0".repeat(11 - part));
            CHECK.due("folds stay counted", bench.count(7), 5);
            CHECK.due("again", bench.unfold(part), NONE);
        }
        LadderBench broad = foldedOf(BROAD);
        CHECK.due("one of three", broad.unfold(5), 2);
        CHECK.dueText("and not those beside", foldedParts(broad), "1111101110");
        CHECK.due("another one, the whole is unfolded already", broad.unfold(2), 1);
        CHECK.dueText("one stays", foldedParts(broad), "1101101110");
        LadderBench part = Check.benchOf(DEEP);
        part.fold(6);
        part.fold(7);
        CHECK.due("only those that were folded", part.unfold(6), 2);
        part.fold(6);
        CHECK.due("one alone", part.unfold(6), 1);
    }

    private static void unfoldIsAnAct() {
        Twins.recorded(CHECK, "unfold of one", Scenes::rich, x -> x.unfold(4), 1);
        Twins.recorded(CHECK, "unfold of the whole", Scenes::foldedWhole, x -> x.unfold(6), 1);
        Twins.recorded(CHECK, "unfold of all three", Scenes::foldedWhole, x -> x.unfold(4), 3);
        Twins.recorded(CHECK, "unfold of five", () -> foldedOf(DEEP), x -> x.unfold(6), 5);
    }

    private static void unfoldIsRefused() {
        for (int part : new int[] {-1, 7, 11, Integer.MAX_VALUE, Integer.MIN_VALUE}) {
            Twins.unchanged(CHECK, "unfold(" + part + ")", Scenes::foldedWhole, x -> x.unfold(part), UNKNOWN);
        }
        for (int part = 0; part <= 3; part++) {
            int arm = part;
            Twins.unchanged(CHECK, "unfold of an arm", Scenes::foldedWhole, x -> x.unfold(arm), NOT_POSSIBLE);
        }
        Twins.unchanged(CHECK, "unfold of an arm alone", () -> Check.benchOf("a"), x -> x.unfold(0), NOT_POSSIBLE);
        Twins.unchanged(CHECK, "unfold of one that is not folded", Scenes::rich, x -> x.unfold(5), NONE);
        Twins.unchanged(CHECK, "unfold of the whole that is not", Scenes::rich, x -> x.unfold(6), NONE);
    }

    /** "all folded parts but the arms are unfolded": also those beside what changes. */
    private static void whatUnfolds() {
        String[] changes = {"set a 9", "set f 11", "set b 1", "set c 99", "open a", "open f", "short d", "short b",
            "mend b", "mend c", "open c", "set b 2"};
        for (String change : changes) {
            LadderBench bench = Scenes.after(BROAD, "open b", "short c");
            bench.foldAll(true);
            CHECK.due("all are folded ahead of " + change, bench.count(2), 0);
            CHECK.due(change, Check.command(bench, change), 1);
            CHECK.dueText("unfolded by " + change, foldedParts(bench), "1101101100");
            CHECK.due("folds stay counted", bench.count(7), 4);
            bench.undo();
            CHECK.dueText("undo() folds them again, " + change, foldedParts(bench), "1111111111");
        }
        LadderBench read = foldedOf(BROAD);
        CHECK.due("the same network is read", Check.read(read, BROAD), 10);
        CHECK.dueText("unfolded by it", foldedParts(read), "1101101100");
        CHECK.due("another one is read", Check.read(read, "(a|b)+c"), 5);
        CHECK.dueText("its arms alone are folded", foldedParts(read), "11010");
        LadderBench kept = foldedOf("a+b");
        kept.keep();
        Check.command(kept, "set a 5");
        CHECK.due("unfolded", kept.part(2, 2), 0);
        kept.restore();
        CHECK.due("restore() brings what was folded", kept.part(2, 2), 1);
    }

    private static void whatUnfoldsNothing() {
        String[] others = {"source 9", "source 12", "meter 9", "meter 100", "open b", "short c", "mend a", "set a 10",
            "set b 10", "set a 0", "set a 100", "open g", "open", "mend ", "a+", "a+b+a", ""};
        for (String other : others) {
            LadderBench bench = Scenes.after(BROAD, "open b", "short c");
            bench.foldAll(false);
            Check.command(bench, other);
            CHECK.dueText("nothing is unfolded by '" + other + "'", foldedParts(bench), "1111111111");
        }
        LadderBench bench = foldedOf(BROAD);
        Check.read(bench, "a+b+");
        bench.note(0);
        bench.keep();
        bench.reading(2, 0);
        bench.solve('a', 5, 1, 0);
        bench.fault(1, 0, 0);
        bench.worst();
        CHECK.dueText("nor by a fault, a reading or what is told", foldedParts(bench), "1111111111");
    }

    /** "all folds there have been since the beginning (foldAll() counts each; a network that is read leaves them)" */
    private static void foldsAreCounted() {
        LadderBench bench = Check.benchOf(DEEP);
        bench.fold(6);
        CHECK.due("one", bench.count(7), 1);
        bench.fold(6);
        bench.fold(9);
        bench.fold(0);
        CHECK.due("none by what is refused", bench.count(7), 1);
        bench.foldAll(true);
        CHECK.due("each of the rest", bench.count(7), 5);
        bench.foldAll(true);
        CHECK.due("none by none", bench.count(7), 5);
        bench.unfold(10);
        CHECK.due("unfold() leaves them", bench.count(7), 5);
        bench.fold(10);
        CHECK.due("the same part once more", bench.count(7), 6);
        Check.command(bench, "open a");
        CHECK.due("what unfolds leaves them", bench.count(7), 6);
        Check.read(bench, "a|b");
        CHECK.due("a network that is read leaves them", bench.count(7), 6);
        bench.foldAll(false);
        CHECK.due("and they go on", bench.count(7), 7);
        // A state is everything but the text, the history and the snapshot.
        bench.undo();
        CHECK.due("they are a part of the state", bench.count(7), 6);
    }
}
