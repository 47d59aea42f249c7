/** The edges of the terms HISTORY and ERRORS, of promises 10 to 12, and of the 512 calls. */
public final class EdgeHistoryTest {
    private static final Check CHECK = new Check();
    private static final int NONE = LadderBench.NONE;

    public static void main(String[] args) {
        atMostFiveStates();
        theOldestIsDropped();
        undoRestoresTheLatest();
        undoOfAnEmptyHistory();
        theRingGoesOn();
        actsRecordAndOthersDoNot();
        whatIsNoActChangesNothing();
        aStateIsEverythingButThree();
        theSnapshotIsEmptyAtFirst();
        keepTakesThePlace();
        theSnapshotStays();
        theSnapshotOfNoNetwork();
        restoreIsAnAct();
        anotherReadingAtTheSameNumber();
        theTextIsInNoState();
        fiveHundredAndTwelveCalls();
        CHECK.finish("EdgeHistoryTest");
    }

    /** A bench whose source has been set to 1, 2 and so on up to this voltage. */
    private static LadderBench sourceUpTo(int volts) {
        LadderBench bench = Check.benchOf("a");
        bench.undo();
        for (int each = 1; each <= volts; each++) {
            Check.command(bench, "source " + each);
        }
        return bench;
    }

    private static void atMostFiveStates() {
        for (int acts = 0; acts <= 11; acts++) {
            int due = Math.min(acts, 5);
            LadderBench bench = sourceUpTo(acts);
            CHECK.due("states after " + acts + " acts", bench.count(8), due);
            for (int left = due - 1; left >= 0; left--) {
                CHECK.due("undo() after " + acts + " acts", bench.undo(), left);
                CHECK.due("states left", bench.count(8), left);
                int then = acts - (due - left);
                CHECK.due("source of then", bench.count(3), then == 0 ? 12 : then);
            }
            CHECK.due("no more than these", bench.undo(), NONE);
            CHECK.due("the oldest one stays", bench.count(3), acts <= 5 ? 12 : acts - 5);
        }
    }

    private static void theOldestIsDropped() {
        LadderBench bench = sourceUpTo(5);
        for (int i = 0; i < 4; i++) {
            bench.undo();
        }
        CHECK.due("the fifth undo() of five acts", bench.undo(), 0);
        CHECK.due("is back at the beginning", bench.count(3), 12);
        LadderBench six = sourceUpTo(6);
        for (int i = 0; i < 4; i++) {
            six.undo();
        }
        CHECK.due("the fifth undo() of six acts", six.undo(), 0);
        CHECK.due("is not", six.count(3), 1);
        LadderBench read = Check.benchOf("a+b");
        for (int i = 0; i < 4; i++) {
            read.note(0);
        }
        CHECK.due("five states", read.count(8), 5);
        read.note(0);
        for (int i = 0; i < 6; i++) {
            read.undo();
        }
        CHECK.due("the bench without a network was dropped", read.count(0), 3);
        CHECK.due("with it no reading", read.count(6), 0);
    }

    private static void undoRestoresTheLatest() {
        LadderBench bench = Check.benchOf("a+b");
        Check.command(bench, "set a 5");
        Check.command(bench, "meter 5");
        bench.fold(2);
        bench.note(0);
        CHECK.due("ahead of note", bench.undo() + bench.count(6), 4);
        CHECK.due("ahead of fold", bench.undo() + bench.part(2, 2) + bench.count(7), 3);
        CHECK.due("ahead of meter", bench.undo() * 1000 + bench.count(4), 2100);
        CHECK.due("ahead of set", bench.undo() * 1000 + bench.arm('a', 0), 1010);
        CHECK.due("ahead of the network", bench.undo() + bench.count(0), 0);
        CHECK.due("no arm", bench.arm('a', 0), LadderBench.UNKNOWN);
    }

    private static void undoOfAnEmptyHistory() {
        Twins.unchanged(CHECK, "undo of a new object", LadderBench::new, LadderBench::undo, NONE);
        Twins.unchanged(CHECK, "undo behind the last", () -> {
            LadderBench bench = Scenes.rich();
            for (int i = 0; i < 5; i++) {
                bench.undo();
            }
            return bench;
        }, LadderBench::undo, NONE);
        LadderBench bench = sourceUpTo(1);
        CHECK.due("the one that there is", bench.undo(), 0);
        CHECK.due("none", bench.undo(), NONE);
        Check.command(bench, "source 7");
        CHECK.due("one again", bench.undo(), 0);
        CHECK.due("none again", bench.undo(), NONE);
    }

    private static void theRingGoesOn() {
        LadderBench bench = sourceUpTo(7);
        bench.undo();
        bench.undo();
        CHECK.due("three are left", bench.count(8), 3);
        for (int volts = 21; volts <= 23; volts++) {
            Check.command(bench, "source " + volts);
        }
        CHECK.due("five again", bench.count(8), 5);
        int[] due = {22, 21, 5, 4, 3};
        for (int i = 0; i < due.length; i++) {
            CHECK.due("undo()", bench.undo(), 4 - i);
            CHECK.due("source of then", bench.count(3), due[i]);
        }
        CHECK.due("none", bench.undo(), NONE);
    }

    private static void dueStates(String call, LadderBench bench, int due) {
        CHECK.due("states after " + call, bench.count(8), due);
    }

    private static void actsRecordAndOthersDoNot() {
        LadderBench bench = new LadderBench();
        Check.write(bench, "a+b");
        dueStates("type and clearText", bench, 0);
        bench.readNetwork();
        dueStates("readNetwork", bench, 1);
        bench.foldAll(false);
        dueStates("foldAll", bench, 2);
        bench.foldAll(false);
        dueStates("foldAll of none", bench, 2);
        bench.unfold(2);
        dueStates("unfold", bench, 3);
        bench.fold(2);
        dueStates("fold", bench, 4);
        bench.undo();
        dueStates("undo", bench, 3);
        bench.keep();
        dueStates("keep", bench, 3);
        bench.restore();
        dueStates("restore", bench, 4);
        bench.undo();
        bench.undo();
        bench.note(0);
        dueStates("note", bench, 3);
        Check.command(bench, "open a");
        dueStates("perform", bench, 4);
        Check.command(bench, "open a");
        dueStates("perform of none", bench, 4);
        bench.note(3);
        dueStates("an error", bench, 4);
    }

    private static void whatIsNoActChangesNothing() {
        Twins.unchanged(CHECK, "part", Scenes::rich, x -> x.part(6, 1), 2);
        Twins.unchanged(CHECK, "solve", Scenes::rich, x -> x.solve('a', 30, 1, 1), 10);
        Twins.unchanged(CHECK, "fault", Scenes::rich, x -> x.fault(1, 0, 0), 1);
        Twins.unchanged(CHECK, "count", Scenes::rich, x -> x.count(8), 5);
        LadderBench bench = Scenes.rich();
        String before = Twins.told(bench, true);
        bench.keep();
        CHECK.dueText("keep changes no more than the snapshot", Twins.told(bench, true), before);
    }

    /** "A state is everything but the text, the history and the snapshot." */
    private static void aStateIsEverythingButThree() {
        LadderBench bench = Scenes.after("a+b", "set a 5", "open b", "source 7", "meter 70");
        bench.foldAll(true);
        bench.note(0);
        bench.note(0);
        bench.note(2);
        bench.keep();
        String before = Twins.told(bench, false);
        Check.read(bench, "c|d");
        Check.command(bench, "short d");
        Check.command(bench, "source 3");
        Check.command(bench, "meter 3");
        Check.write(bench, "a+b???????");
        bench.undo();
        bench.undo();
        bench.undo();
        bench.undo();
        Check.write(bench, "meter 70");
        CHECK.dueText("undo() restores all", Twins.told(bench, false), before);
        Check.read(bench, "e");
        bench.note(0);
        CHECK.due("restore", bench.restore(), 3);
        Check.write(bench, "meter 70");
        CHECK.dueText("restore() restores all", Twins.told(bench, false), before);
    }

    private static void theSnapshotIsEmptyAtFirst() {
        Twins.unchanged(CHECK, "restore of a new object", LadderBench::new, LadderBench::restore, NONE);
        Twins.unchanged(CHECK, "restore without keep", () -> Check.benchOf("a+b"), LadderBench::restore, NONE);
        LadderBench bench = Check.benchOf("a+b");
        bench.restore();
        CHECK.due("the network stays", bench.count(0), 3);
        CHECK.due("keep", bench.keep(), 3);
        CHECK.due("restore", bench.restore(), 3);
    }

    private static void keepTakesThePlace() {
        LadderBench bench = Check.benchOf("a+b");
        CHECK.due("keep", bench.keep(), 3);
        Check.read(bench, "a+b|(c+d)");
        CHECK.due("keep of another", bench.keep(), 7);
        Check.read(bench, "a");
        CHECK.due("restore", bench.restore(), 7);
        CHECK.due("the parts then", bench.count(0), 7);
        bench.undo();
        CHECK.due("the parts that were", bench.count(0), 1);
        bench.undo();
        bench.undo();
        bench.undo();
        CHECK.due("undo() to none", bench.count(0), 0);
        CHECK.due("undo() leaves the snapshot", bench.restore(), 7);
        LadderBench same = Scenes.rich();
        same.keep();
        same.keep();
        CHECK.due("keep of the same twice", same.restore(), 7);
        CHECK.due("no change", same.count(3), 9);
    }

    /** "Restores the state of the snapshot, which stays." */
    private static void theSnapshotStays() {
        LadderBench bench = Check.benchOf("a+b");
        bench.keep();
        for (int value = 1; value <= 7; value++) {
            Check.command(bench, "set b " + value);
            Check.command(bench, "short a");
            bench.note(1);
            bench.foldAll(true);
            CHECK.due("restore once more", bench.restore(), 3);
            CHECK.due("b", bench.arm('b', 0), 10);
            CHECK.due("a", bench.arm('a', 1), 0);
            CHECK.due("readings", bench.count(6), 0);
            CHECK.due("folds", bench.count(7) + bench.part(2, 2), 0);
        }
        bench.restore();
        bench.restore();
        CHECK.due("restore right behind restore is recorded too", bench.count(8), 5);
    }

    private static void theSnapshotOfNoNetwork() {
        LadderBench bench = new LadderBench();
        CHECK.due("keep of no network", bench.keep(), 0);
        Check.read(bench, "a+b");
        Check.command(bench, "source 5");
        CHECK.due("restore of no network", bench.restore(), 0);
        CHECK.due("no parts then", bench.count(0), 0);
        CHECK.due("no arm", bench.arm('a', 0), LadderBench.UNKNOWN);
        CHECK.due("no part", bench.resistance(0, 0), LadderBench.UNKNOWN);
        CHECK.due("the source of then", bench.count(3), 12);
        CHECK.due("nothing to fold", bench.foldAll(true), NONE);
        CHECK.due("no worst part", bench.worst(), NONE);
        CHECK.due("no faults", bench.fault(1, 0, 0), LadderBench.NOT_POSSIBLE);
        CHECK.due("three states", bench.count(8), 3);
        bench.undo();
        CHECK.due("undo of restore", bench.count(0), 3);
        CHECK.due("the source", bench.count(3), 5);
    }

    private static void restoreIsAnAct() {
        Twins.recorded(CHECK, "restore", Scenes::rich, LadderBench::restore, 7);
        Twins.recorded(CHECK, "restore of another network", () -> {
            LadderBench bench = Scenes.rich();
            Check.read(bench, "a|(b+c|(d+(e|f)))");
            return bench;
        }, LadderBench::restore, 7);
        Twins.recorded(CHECK, "restore of what is", () -> {
            LadderBench bench = Check.benchOf("a");
            bench.keep();
            return bench;
        }, LadderBench::restore, 1);
        LadderBench bench = Scenes.rich();
        bench.restore();
        CHECK.due("the history is not in the snapshot", bench.count(8), 5);
    }

    /** undo() and restore() bring back a reading where another one has been noted since. */
    private static void anotherReadingAtTheSameNumber() {
        LadderBench bench = Check.benchOf("a+b");
        bench.note(0);
        bench.note(0);
        bench.keep();
        bench.undo();
        bench.undo();
        CHECK.due("12 volts as the first reading", bench.note(2), 1);
        CHECK.due("restore", bench.restore(), 3);
        CHECK.dueFraction("the one of the snapshot", bench.noted(0, 0), bench.noted(0, 1), 40, 7);
        CHECK.due("its times", bench.noted(0, 2), 2);
        CHECK.due("undo of restore", bench.undo(), 2);
        CHECK.dueFraction("the one that was", bench.noted(0, 0), bench.noted(0, 1), 12, 1);
        CHECK.due("its times", bench.noted(0, 2), 1);
        CHECK.due("a new one again", bench.note(0), 1);
        CHECK.due("two readings", bench.count(5), 2);
    }

    private static void theTextIsInNoState() {
        LadderBench bench = Check.benchOf("a+b");
        bench.keep();
        Check.write(bench, "open a");
        bench.undo();
        CHECK.due("undo() leaves the text", bench.count(9), 6);
        bench.restore();
        CHECK.due("restore() leaves the text", bench.count(9), 6);
        CHECK.due("and what it says", bench.perform(), 1);
        bench.clearText();
        bench.undo();
        CHECK.due("also an empty one", bench.count(9), 0);
    }

    /** "An object is used for at most 512 calls after it has been made" */
    private static void fiveHundredAndTwelveCalls() {
        LadderBench notes = Check.benchOf("a+b");
        for (int call = 6; call < 512; call++) {
            notes.note(2);
        }
        CHECK.due("note as the 512th call", notes.note(2), 507);
        LadderBench folds = Check.benchOf("a+b");
        for (int call = 6; call < 512; call += 2) {
            folds.fold(2);
            folds.unfold(2);
        }
        CHECK.due("count as the 512th call", folds.count(7), 253);
        LadderBench texts = new LadderBench();
        for (int call = 1; call < 512; call++) {
            texts.type('(');
        }
        CHECK.due("readNetwork as the 512th call", texts.readNetwork(), -140);
        LadderBench states = Check.benchOf("a+b");
        states.keep();
        for (int call = 7; call < 512; call++) {
            states.restore();
        }
        CHECK.due("undo as the 512th call", states.undo(), 4);
    }
}
