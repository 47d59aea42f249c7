import java.util.function.Supplier;
import java.util.function.ToLongFunction;

/**
 * Shows what a call changes by two benches that were made in the same way: one has the call, the
 * other has not. All that a bench tells is compared, then what its history, its snapshot and its
 * text hold. Each look takes benches of its own, so that none is called more than 512 times.
 */
final class Twins {
    private static final int STATES = 5;
    private static final int RESTORE = STATES + 1;
    private static final int READ = STATES + 2;
    private static final int PERFORM = STATES + 3;
    private static final int HISTORY_SIZE = 8;

    private Twins() {
    }

    /** A call that is refused, or that only tells: its answer, and that nothing has changed. */
    static void unchanged(Check check, String name, Supplier<LadderBench> start,
            ToLongFunction<LadderBench> call, long want) {
        check.due(name, call.applyAsLong(start.get()), want);
        for (int look = 0; look <= PERFORM; look++) {
            LadderBench called = start.get();
            call.applyAsLong(called);
            check.dueText(name + " changes nothing, look " + look,
                    look(called, look), look(start.get(), look));
        }
    }

    /** An act: its answer, one more state, and that each undo() leads to what was before. */
    static void recorded(Check check, String name, Supplier<LadderBench> start,
            ToLongFunction<LadderBench> act, long want) {
        LadderBench acted = start.get();
        int states = acted.count(HISTORY_SIZE);
        check.due(name, act.applyAsLong(acted), want);
        check.due(name + " records one state", acted.count(HISTORY_SIZE), Math.min(states + 1, STATES));
        for (int undone = 0; undone < STATES; undone++) {
            LadderBench with = start.get();
            act.applyAsLong(with);
            undo(with, undone + 1);
            LadderBench without = start.get();
            undo(without, undone);
            check.dueText(name + " is undone, and " + undone + " more", told(with, false), told(without, false));
        }
        dueSnapshot(check, name, start, act);
    }

    private static void dueSnapshot(Check check, String name, Supplier<LadderBench> start,
            ToLongFunction<LadderBench> act) {
        LadderBench with = start.get();
        act.applyAsLong(with);
        with.restore();
        LadderBench without = start.get();
        boolean has = without.restore() != LadderBench.NONE;
        if (has) {
            check.dueText(name + " leaves the snapshot", told(with, false), told(without, false));
        }
    }

    private static void undo(LadderBench bench, int times) {
        for (int i = 0; i < times; i++) {
            bench.undo();
        }
    }

    private static String look(LadderBench bench, int look) {
        long answer = 0;
        if (look == RESTORE) {
            answer = bench.restore();
        } else if (look == READ) {
            answer = bench.readNetwork();
        } else if (look == PERFORM) {
            answer = bench.perform();
        } else {
            for (int i = 0; i < look; i++) {
                answer = 10 * answer + bench.undo();
            }
        }
        return answer + ": " + told(bench, true);
    }

    /** All that a bench tells; without the number of states in its history if that is not asked. */
    static String told(LadderBench bench, boolean withHistory) {
        StringBuilder all = new StringBuilder();
        for (int what = 0; what <= 10; what++) {
            all.append(what == HISTORY_SIZE && !withHistory ? 0 : bench.count(what)).append(' ');
        }
        for (int part = 0; part < bench.count(0); part++) {
            all.append("; part ").append(part);
            for (int what = 0; what <= 7; what++) {
                all.append(' ').append(bench.part(part, what));
            }
            for (int what = 0; what <= 1; what++) {
                all.append(' ').append(bench.resistance(part, what)).append(' ').append(bench.folded(part, what));
                all.append(' ').append(bench.voltage(part, what)).append(' ').append(bench.reading(part, what));
            }
            all.append(' ').append(bench.loss(part));
        }
        for (int letter = 'a'; letter <= 'f'; letter++) {
            all.append("; ").append((char) letter);
            for (int what = 0; what <= 2; what++) {
                all.append(' ').append(bench.arm(letter, what));
            }
        }
        for (int number = 0; number < bench.count(5); number++) {
            all.append("; noted ").append(bench.noted(number, 0)).append('/').append(bench.noted(number, 1));
            all.append(' ').append(bench.noted(number, 2));
        }
        return all.append("; worst ").append(bench.worst()).toString();
    }
}
