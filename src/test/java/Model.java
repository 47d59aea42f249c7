import java.math.BigInteger;
import java.util.ArrayDeque;
import java.util.ArrayList;
import java.util.Arrays;
import java.util.Deque;
import java.util.List;

/**
 * The document once more, in other ways than LadderBench goes: a tree that is read by recursion,
 * numbers without a bound, states that are never changed in place. ModelTest compares the two.
 */
final class Model {
    private static final int UNKNOWN = -1;
    private static final int BAD_VALUE = -2;
    private static final int NOT_POSSIBLE = -3;
    private static final int NONE = -4;

    /** upper / lower in lowest terms; 1 / 0 is infinite. */
    record Ratio(BigInteger upper, BigInteger lower) {
        static Ratio of(BigInteger upper, BigInteger lower) {
            BigInteger divisor = upper.gcd(lower);
            return new Ratio(upper.divide(divisor), lower.divide(divisor));
        }

        static Ratio of(long upper, long lower) {
            return of(BigInteger.valueOf(upper), BigInteger.valueOf(lower));
        }

        boolean isInfinite() {
            return lower.signum() == 0;
        }

        boolean isZero() {
            return upper.signum() == 0;
        }

        Ratio plus(Ratio other) {
            return of(upper.multiply(other.lower).add(other.upper.multiply(lower)), lower.multiply(other.lower));
        }

        Ratio minus(Ratio other) {
            return of(upper.multiply(other.lower).subtract(other.upper.multiply(lower)), lower.multiply(other.lower));
        }

        Ratio times(Ratio other) {
            return of(upper.multiply(other.upper), lower.multiply(other.lower));
        }

        Ratio over(Ratio other) {
            return of(upper.multiply(other.lower), lower.multiply(other.upper));
        }

        long half(int what) {
            return (what == 0 ? upper : lower).longValueExact();
        }
    }

    /** (a x + b) / (c x + d), for the x of the arm that is looked for. */
    record Moebius(BigInteger a, BigInteger b, BigInteger c, BigInteger d) {
        static Moebius constant(Ratio ratio) {
            return new Moebius(BigInteger.ZERO, ratio.upper, BigInteger.ZERO, ratio.lower);
        }
    }

    static final class Node {
        int kind;
        int letter = -1;
        int number;
        Node around;
        final List<Node> inner = new ArrayList<>();
    }

    static final class State {
        String network = "";
        int[] value = {10, 10, 10, 10, 10, 10};
        int[] broken = new int[6];
        boolean[] isFolded = new boolean[0];
        int source = 12;
        int meter = 100;
        List<Ratio> readings = new ArrayList<>();
        List<Integer> times = new ArrayList<>();
        int folds = 0;

        State copy() {
            State copy = new State();
            copy.network = network;
            copy.value = value.clone();
            copy.broken = broken.clone();
            copy.isFolded = isFolded.clone();
            copy.source = source;
            copy.meter = meter;
            copy.readings = new ArrayList<>(readings);
            copy.times = new ArrayList<>(times);
            copy.folds = folds;
            return copy;
        }
    }

    private final StringBuilder text = new StringBuilder();
    private State state = new State();
    private State snapshot = null;
    private final Deque<State> history = new ArrayDeque<>();
    private final List<Node> parts = new ArrayList<>();

    private void record(State before) {
        history.addLast(before);
        if (history.size() > 5) {
            history.removeFirst();
        }
    }

    private void use(State other) {
        state = other.copy();
        plant();
    }

    // ---- texts

    int type(char character) {
        if (text.length() == 40) {
            return NOT_POSSIBLE;
        }
        text.append(character);
        return text.length();
    }

    int clearText() {
        int before = text.length();
        text.setLength(0);
        return before;
    }

    private static final class Fault extends RuntimeException {
        final int place;

        Fault(int place) {
            this.place = place;
        }
    }

    private String source;
    private int place;
    private String stood;

    private char look() {
        return place < source.length() ? source.charAt(place) : '\0';
    }

    private Node join(List<Node> inner, int kind) {
        if (inner.size() == 1) {
            return inner.get(0);
        }
        Node node = new Node();
        node.kind = kind;
        node.inner.addAll(inner);
        for (Node each : inner) {
            each.around = node;
        }
        return node;
    }

    private Node chain() {
        List<Node> links = new ArrayList<>(List.of(link()));
        while (look() == '+') {
            place++;
            links.add(link());
        }
        return join(links, 1);
    }

    private Node link() {
        List<Node> pieces = new ArrayList<>(List.of(piece()));
        while (look() == '|') {
            place++;
            pieces.add(piece());
        }
        return join(pieces, 2);
    }

    private Node piece() {
        char character = look();
        if (character == '(') {
            place++;
            Node inner = chain();
            if (look() != ')') {
                throw new Fault(place);
            }
            place++;
            return inner;
        }
        if (character < 'a' || character > 'f' || stood.indexOf(character) >= 0) {
            throw new Fault(place);
        }
        stood += character;
        place++;
        Node arm = new Node();
        arm.letter = character - 'a';
        return arm;
    }

    private Node readTree(String network) {
        source = network;
        place = 0;
        stood = "";
        Node root = chain();
        if (place < source.length()) {
            throw new Fault(place);
        }
        return root;
    }

    private void number(Node node) {
        for (Node inner : node.inner) {
            number(inner);
        }
        node.number = parts.size();
        parts.add(node);
    }

    private void plant() {
        parts.clear();
        if (!state.network.isEmpty()) {
            number(readTree(state.network));
        }
    }

    int readNetwork() {
        try {
            readTree(text.toString());
        } catch (Fault fault) {
            return -100 - fault.place;
        }
        record(state.copy());
        state.network = text.toString();
        state.value = new int[] {10, 10, 10, 10, 10, 10};
        state.broken = new int[6];
        plant();
        unfoldEach();
        return parts.size();
    }

    private void unfoldEach() {
        state.isFolded = new boolean[parts.size()];
        for (Node node : parts) {
            state.isFolded[node.number] = node.kind == 0;
        }
    }

    /** The places at which the words of a text start, with its words; blanks stand singly between. */
    int perform() {
        String line = text.toString();
        String[] words = line.split(" ", -1);
        int[] starts = new int[words.length];
        for (int i = 1; i < words.length; i++) {
            starts[i] = starts[i - 1] + words[i - 1].length() + 1;
        }
        List<String> known = List.of("set", "open", "short", "mend", "source", "meter");
        int command = known.indexOf(words[0]);
        if (command < 0) {
            return -100;
        }
        String wants = command == 0 ? "LN" : command < 4 ? "L" : command == 4 ? "N" : "M";
        int letter = -1;
        int number = -1;
        for (int i = 0; i < wants.length(); i++) {
            if (words.length <= i + 1) {
                return -100 - line.length();
            }
            String word = words[i + 1];
            if (wants.charAt(i) == 'L') {
                if (!word.matches("[a-f]")) {
                    return -100 - starts[i + 1];
                }
                letter = word.charAt(0) - 'a';
            } else {
                if (!word.matches(wants.charAt(i) == 'M' ? "[1-9][0-9]{0,2}" : "[1-9][0-9]?")) {
                    return -100 - starts[i + 1];
                }
                number = Integer.parseInt(word);
            }
        }
        if (words.length > wants.length() + 1) {
            return -100 - (starts[wants.length() + 1] - 1);
        }
        return carryOut(command, letter, number);
    }

    private int carryOut(int command, int letter, int number) {
        if (letter >= 0 && armPart(letter) == null) {
            return UNKNOWN;
        }
        State before = state.copy();
        if (command == 0) {
            state.value[letter] = number;
        } else if (command < 4) {
            state.broken[letter] = command % 3;
        } else if (command == 4) {
            state.source = number;
        } else {
            state.meter = number;
        }
        boolean sameArms = Arrays.equals(before.value, state.value) && Arrays.equals(before.broken, state.broken);
        if (sameArms && before.source == state.source && before.meter == state.meter) {
            return NONE;
        }
        if (!sameArms) {
            unfoldEach();
        }
        record(before);
        return 1;
    }

    private Node armPart(int letter) {
        for (Node node : parts) {
            if (node.kind == 0 && node.letter == letter) {
                return node;
            }
        }
        return null;
    }

    // ---- folding

    private boolean isPart(int part) {
        return part >= 0 && part < parts.size();
    }

    private boolean hasFoldedParts(int part) {
        return parts.get(part).inner.stream().allMatch(each -> state.isFolded[each.number]);
    }

    int fold(int part) {
        if (!isPart(part)) {
            return UNKNOWN;
        }
        if (!hasFoldedParts(part)) {
            return NOT_POSSIBLE;
        }
        if (state.isFolded[part]) {
            return NONE;
        }
        record(state.copy());
        state.isFolded[part] = true;
        state.folds++;
        return count(2);
    }

    int foldAll(boolean greatest) {
        int folds = count(2);
        if (folds == 0) {
            return NONE;
        }
        record(state.copy());
        Arrays.fill(state.isFolded, true);
        state.folds += folds;
        return folds;
    }

    int unfold(int part) {
        if (!isPart(part)) {
            return UNKNOWN;
        }
        if (parts.get(part).kind == 0) {
            return NOT_POSSIBLE;
        }
        if (!state.isFolded[part]) {
            return NONE;
        }
        record(state.copy());
        int before = count(2);
        for (Node node = parts.get(part); node != null; node = node.around) {
            state.isFolded[node.number] = false;
        }
        return count(2) - before;
    }

    // ---- readings

    int note(int part) {
        if (!isPart(part)) {
            return UNKNOWN;
        }
        Ratio told = volts(parts.get(part), parts.get(part));
        int number = state.readings.indexOf(told);
        if (number < 0 && state.readings.size() == 20) {
            return NOT_POSSIBLE;
        }
        record(state.copy());
        if (number < 0) {
            number = state.readings.size();
            state.readings.add(told);
            state.times.add(0);
        }
        state.times.set(number, state.times.get(number) + 1);
        return state.times.get(number);
    }

    // ---- history

    int undo() {
        if (history.isEmpty()) {
            return NONE;
        }
        use(history.removeLast());
        return history.size();
    }

    int keep() {
        snapshot = state.copy();
        return parts.size();
    }

    int restore() {
        if (snapshot == null) {
            return NONE;
        }
        record(state.copy());
        use(snapshot);
        return parts.size();
    }

    // ---- what is told

    private Ratio ohms(Node node, Node metered) {
        Ratio own = ownOhms(node, metered);
        if (node != metered) {
            return own;
        }
        Ratio meter = Ratio.of(state.meter, 1);
        return own.isInfinite() ? meter : own.times(meter).over(own.plus(meter));
    }

    private Ratio ownOhms(Node node, Node metered) {
        Ratio infinite = Ratio.of(1, 0);
        if (node.kind == 0) {
            int broken = state.broken[node.letter];
            return broken == 1 ? infinite : Ratio.of(broken == 2 ? 0 : state.value[node.letter], 1);
        }
        List<Ratio> inner = new ArrayList<>();
        for (Node each : node.inner) {
            inner.add(ohms(each, metered));
        }
        if (node.kind == 1) {
            return inner.stream().anyMatch(Ratio::isInfinite)
                    ? infinite : inner.stream().reduce(Ratio.of(0, 1), Ratio::plus);
        }
        if (inner.stream().anyMatch(Ratio::isZero)) {
            return Ratio.of(0, 1);
        }
        Ratio sum = Ratio.of(0, 1);
        for (Ratio each : inner) {
            if (!each.isInfinite()) {
                sum = sum.plus(Ratio.of(1, 1).over(each));
            }
        }
        return sum.isZero() ? infinite : Ratio.of(1, 1).over(sum);
    }

    private Ratio volts(Node node, Node metered) {
        if (node.around == null) {
            return Ratio.of(state.source, 1);
        }
        Ratio over = volts(node.around, metered);
        if (node.around.kind == 2) {
            return over;
        }
        Ratio whole = ohms(node.around, metered);
        Ratio own = ohms(node, metered);
        if (whole.isInfinite()) {
            long infinite = node.around.inner.stream().filter(each -> ohms(each, metered).isInfinite()).count();
            return own.isInfinite() ? over.over(Ratio.of(infinite, 1)) : Ratio.of(0, 1);
        }
        return whole.isZero() ? Ratio.of(0, 1) : over.times(own).over(whole);
    }

    private int arms(Node node) {
        return node.kind == 0 ? 1 : node.inner.stream().mapToInt(this::arms).sum();
    }

    int part(int part, int what) {
        if (!isPart(part)) {
            return UNKNOWN;
        }
        Node node = parts.get(part);
        switch (what) {
            case 0: return node.kind;
            case 1: return node.inner.size();
            case 2: return state.isFolded[part] ? 1 : 0;
            case 3: return node.around == null ? NONE : node.around.number;
            case 4: return node.kind == 0 ? 'a' + node.letter : NONE;
            case 5: return arms(node);
            case 6: return !state.isFolded[part] && hasFoldedParts(part) ? 1 : 0;
            case 7: return node.kind == 0 ? NONE : node.inner.get(0).number;
            default: return BAD_VALUE;
        }
    }

    int arm(int letter, int what) {
        Node node = armPart(letter - 'a');
        if (letter < 'a' || letter > 'f' || node == null) {
            return UNKNOWN;
        }
        switch (what) {
            case 0: return state.value[node.letter];
            case 1: return state.broken[node.letter];
            case 2: return node.number;
            default: return BAD_VALUE;
        }
    }

    private long half(int part, int what, Node metered, boolean isVoltage) {
        if (!isPart(part)) {
            return UNKNOWN;
        }
        if (what != 0 && what != 1) {
            return BAD_VALUE;
        }
        Node node = parts.get(part);
        return (isVoltage ? volts(node, metered) : ohms(node, metered)).half(what);
    }

    long resistance(int part, int what) {
        return half(part, what, null, false);
    }

    long folded(int part, int what) {
        long told = resistance(part, what);
        return told >= 0 && !state.isFolded[part] ? NONE : told;
    }

    long voltage(int part, int what) {
        return half(part, what, null, true);
    }

    long reading(int part, int what) {
        return half(part, what, isPart(part) ? parts.get(part) : null, true);
    }

    int loss(int part) {
        if (!isPart(part)) {
            return UNKNOWN;
        }
        Ratio voltage = volts(parts.get(part), null);
        if (voltage.isZero()) {
            return 0;
        }
        Ratio reading = volts(parts.get(part), parts.get(part));
        Ratio loss = Ratio.of(1000, 1).times(voltage.minus(reading)).over(voltage);
        BigInteger[] rounded = loss.upper.divideAndRemainder(loss.lower);
        return rounded[0].intValueExact() - (rounded[1].signum() < 0 ? 1 : 0);
    }

    long noted(int number, int what) {
        if (number < 0 || what < 0 || what > 2) {
            return BAD_VALUE;
        }
        if (number >= state.readings.size()) {
            return NONE;
        }
        return what == 2 ? state.times.get(number) : state.readings.get(number).half(what);
    }

    private Moebius curve(Node node, int letter) {
        if (node.kind == 0 && node.letter == letter) {
            return new Moebius(BigInteger.ONE, BigInteger.ZERO, BigInteger.ZERO, BigInteger.ONE);
        }
        Node within = null;
        for (Node each : node.inner) {
            for (Node up = armPart(letter); up != null; up = up.around) {
                within = up == each ? each : within;
            }
        }
        if (within == null) {
            return Moebius.constant(ohms(node, null));
        }
        Moebius inner = curve(within, letter);
        Node others = new Node();
        others.kind = node.kind;
        others.inner.addAll(node.inner);
        others.inner.remove(within);
        Ratio rest = ownOhms(others, null);
        if (node.kind == 1 ? rest.isInfinite() : rest.isZero()) {
            return Moebius.constant(rest);
        }
        BigInteger p = rest.upper;
        BigInteger q = rest.lower;
        if (node.kind == 1) {
            return new Moebius(inner.a.multiply(q).add(inner.c.multiply(p)),
                    inner.b.multiply(q).add(inner.d.multiply(p)), inner.c.multiply(q), inner.d.multiply(q));
        }
        return new Moebius(inner.a.multiply(p), inner.b.multiply(p),
                inner.a.multiply(q).add(inner.c.multiply(p)), inner.b.multiply(q).add(inner.d.multiply(p)));
    }

    long solve(int letter, int upper, int lower, int what) {
        if (letter < 'a' || letter > 'f' || armPart(letter - 'a') == null) {
            return UNKNOWN;
        }
        if (upper < 0 || upper > 9999 || lower < 1 || lower > 99 || what < 0 || what > 2) {
            return BAD_VALUE;
        }
        Moebius curve = curve(parts.get(parts.size() - 1), letter - 'a');
        BigInteger u = BigInteger.valueOf(upper);
        BigInteger l = BigInteger.valueOf(lower);
        BigInteger slope = curve.a.multiply(l).subtract(u.multiply(curve.c));
        BigInteger rest = u.multiply(curve.d).subtract(curve.b.multiply(l));
        if (slope.signum() == 0) {
            return what != 0 ? NONE : rest.signum() == 0 ? 2 : 0;
        }
        if (slope.signum() * rest.signum() < 0) {
            return what == 0 ? 0 : NONE;
        }
        return what == 0 ? 1 : Ratio.of(rest.abs(), slope.abs()).half(what - 1);
    }

    int fault(int upper, int lower, int number) {
        if (upper < 0 || upper > 9999 || lower < 0 || lower > 99 || upper + lower == 0 || number < 0) {
            return BAD_VALUE;
        }
        if (parts.isEmpty()) {
            return NOT_POSSIBLE;
        }
        List<Integer> found = new ArrayList<>();
        for (int letter = 0; letter < 6; letter++) {
            for (int broken = 1; broken <= 2; broken++) {
                if (armPart(letter) != null && state.broken[letter] == 0) {
                    state.broken[letter] = broken;
                    if (ohms(parts.get(parts.size() - 1), null).equals(Ratio.of(upper, lower))) {
                        found.add(10 * letter + broken);
                    }
                    state.broken[letter] = 0;
                }
            }
        }
        return number < found.size() ? found.get(number) : NONE;
    }

    int worst() {
        int worst = NONE;
        for (int part = parts.size() - 1; part >= 0; part--) {
            if (worst == NONE || loss(part) >= loss(worst)) {
                worst = part;
            }
        }
        return worst;
    }

    int count(int what) {
        switch (what) {
            case 0: return parts.size();
            case 1: return (int) parts.stream().filter(each -> each.kind == 0).count();
            case 2: return (int) parts.stream().filter(each -> !state.isFolded[each.number]).count();
            case 3: return state.source;
            case 4: return state.meter;
            case 5: return state.readings.size();
            case 6: return state.times.stream().mapToInt(Integer::intValue).sum();
            case 7: return state.folds;
            case 8: return history.size();
            case 9: return text.length();
            case 10: return (int) parts.stream()
                    .filter(each -> each.kind == 0 && state.broken[each.letter] != 0).count();
            default: return BAD_VALUE;
        }
    }
}
