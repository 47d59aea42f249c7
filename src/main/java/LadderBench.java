/**
 * A bench for networks of resistors: a network is read from a text, folded part by part, fed by a
 * source, measured by a meter and changed by commands. Every number is an exact fraction.
 */
public final class LadderBench {
    /** There is no such part or arm. */
    public static final int UNKNOWN = -1;
    /** Another argument is out of range. */
    public static final int BAD_VALUE = -2;
    /** This is not possible. */
    public static final int NOT_POSSIBLE = -3;
    /** There is no such thing; not an error. */
    public static final int NONE = -4;

    private static final int TEXT_LIMIT = 40;
    private static final int LETTERS = 6;
    /** Six arms, and at most five parts that join two or more of what is there. */
    private static final int PART_LIMIT = 11;
    private static final int NOTE_LIMIT = 20;
    private static final int HISTORY_LIMIT = 5;

    private static final int ARM = 0;
    private static final int SERIES = 1;
    private static final int PARALLEL = 2;

    private static final int SOUND = 0;
    private static final int OPEN = 1;
    private static final int SHORTED = 2;

    /** Stands inside the object for an index that there is not. */
    private static final int NOWHERE = -1;
    private static final int FAULT_BASE = -100;
    private static final int SEVERAL = 2;
    private static final int UPPER_LIMIT = 9999;
    private static final int LOWER_LIMIT = 99;
    /** Euclid's way takes fewer than a hundred steps for two longs. */
    private static final int DIVISOR_STEPS = 1000;

    private final Line text;
    private final State now;
    private final State snapshot;
    private final State trial;
    private final History history;
    private final NetworkReader reader;
    private final Command command;
    private final Circuit circuit;
    private final Fraction wanted;
    private boolean hasSnapshot;

    /** Creates a bench without a network. */
    public LadderBench() {
        text = new Line();
        now = new State();
        snapshot = new State();
        trial = new State();
        history = new History();
        reader = new NetworkReader();
        command = new Command();
        circuit = new Circuit();
        wanted = new Fraction();
        hasSnapshot = false;
    }

    // ---- texts

    /** Types a character behind the text; returns its length then, or NOT_POSSIBLE if it is full. */
    public int type(char character) {
        if (text.length >= TEXT_LIMIT) {
            return NOT_POSSIBLE;
        }
        text.append(character);
        return text.length;
    }

    /** Empties the text; returns the length that it had. */
    public int clearText() {
        int before = text.length;
        text.length = 0;
        return before;
    }

    /** Reads the network of the text; returns the number of its parts, or -100 minus the fault. */
    public int readNetwork() {
        int place = reader.findFault(text);
        if (place != NOWHERE) {
            return FAULT_BASE - place;
        }
        history.record(now);
        reader.build(text, now.network);
        now.resetArms();
        return now.network.size;
    }

    /** Does what the command of the text says; returns 1, -100 minus the fault, UNKNOWN or NONE. */
    public int perform() {
        int place = command.read(text);
        if (place != NOWHERE) {
            return FAULT_BASE - place;
        }
        if (command.takesLetter() && !now.network.hasArm(command.letter)) {
            return UNKNOWN;
        }
        if (command.isDoneIn(now)) {
            return NONE;
        }
        history.record(now);
        command.changeIn(now);
        return 1;
    }

    // ---- folding

    /** Folds a part; returns the number of parts that are not folded then. */
    public int fold(int part) {
        if (!now.network.hasPart(part)) {
            return UNKNOWN;
        }
        if (!now.hasFoldedParts(part)) {
            return NOT_POSSIBLE;
        }
        if (now.isFolded[part]) {
            return NONE;
        }
        history.record(now);
        now.foldOne(part);
        return now.countUnfolded();
    }

    /** Folds all parts, the lowest or the greatest first; returns how many are folded by this. */
    public int foldAll(boolean greatest) {
        int next = now.findFoldable(greatest);
        if (next == NOWHERE) {
            return NONE;
        }
        history.record(now);
        int folds = 0;
        for (int turn = 0; turn < PART_LIMIT && next != NOWHERE; turn++) {
            now.foldOne(next);
            folds++;
            next = now.findFoldable(greatest);
        }
        return folds;
    }

    /** Unfolds a part and all around it; returns how many are not folded any more by this. */
    public int unfold(int part) {
        if (!now.network.hasPart(part)) {
            return UNKNOWN;
        }
        if (now.network.kind[part] == ARM) {
            return NOT_POSSIBLE;
        }
        if (!now.isFolded[part]) {
            return NONE;
        }
        history.record(now);
        return now.unfoldFrom(part);
    }

    // ---- readings

    /** Notes the reading of a part; returns how many times this reading was noted. */
    public int note(int part) {
        if (!now.network.hasPart(part)) {
            return UNKNOWN;
        }
        Fraction told = circuit.findReading(now, part);
        int number = now.notes.find(told);
        if (number == NOWHERE && now.notes.size >= NOTE_LIMIT) {
            return NOT_POSSIBLE;
        }
        history.record(now);
        return now.notes.put(told, number);
    }

    // ---- history

    /** Restores the latest state of the history; returns the number of states that are left. */
    public int undo() {
        if (history.size == 0) {
            return NONE;
        }
        history.giveBack(now);
        return history.size;
    }

    /** Takes a snapshot of the state; returns the number of parts. */
    public int keep() {
        snapshot.copy(now);
        hasSnapshot = true;
        return now.network.size;
    }

    /** Restores the snapshot, which stays; returns the number of parts then. */
    public int restore() {
        if (!hasSnapshot) {
            return NONE;
        }
        history.record(now);
        now.copy(snapshot);
        return now.network.size;
    }

    // ---- what is told; a fraction is told by its upper number (what is 0) and its lower one (what is 1)

    /** Tells of a part: kind, parts, folded, around, letter, arms, can be folded, first part. */
    public int part(int part, int what) {
        if (!now.network.hasPart(part)) {
            return UNKNOWN;
        }
        switch (what) {
            case 0:
                return now.network.kind[part];
            case 1:
                return now.network.countParts(part);
            case 2:
                return now.isFolded[part] ? 1 : 0;
            case 3:
                return noneIfNowhere(now.network.around[part]);
            case 4:
                return now.network.kind[part] == ARM ? 'a' + now.network.letter[part] : NONE;
            case 5:
                return now.network.countArms(part);
            case 6:
                return now.isFoldable(part) ? 1 : 0;
            case 7:
                return noneIfNowhere(now.network.findFirst(part));
            default:
                return BAD_VALUE;
        }
    }

    /** Tells of an arm: its value, its state or its part. */
    public int arm(int letter, int what) {
        int index = indexOfLetter(letter);
        if (!now.network.hasArm(index)) {
            return UNKNOWN;
        }
        switch (what) {
            case 0:
                return now.armValue[index];
            case 1:
                return now.armState[index];
            case 2:
                return now.network.partOfArm[index];
            default:
                return BAD_VALUE;
        }
    }

    /** Tells the resistance of a part. */
    public long resistance(int part, int what) {
        if (!now.network.hasPart(part)) {
            return UNKNOWN;
        }
        if (!isHalf(what)) {
            return BAD_VALUE;
        }
        circuit.findOhms(now, NOWHERE);
        return circuit.ohms[part].half(what);
    }

    /** Tells the folded value of a part; NONE if it is not folded. */
    public long folded(int part, int what) {
        if (!now.network.hasPart(part)) {
            return UNKNOWN;
        }
        if (!isHalf(what)) {
            return BAD_VALUE;
        }
        if (!now.isFolded[part]) {
            return NONE;
        }
        // Whatever changes a resistance unfolds, so a folded value is always the resistance of now.
        circuit.findOhms(now, NOWHERE);
        return circuit.ohms[part].half(what);
    }

    /** Tells the voltage over a part. */
    public long voltage(int part, int what) {
        if (!now.network.hasPart(part)) {
            return UNKNOWN;
        }
        if (!isHalf(what)) {
            return BAD_VALUE;
        }
        return circuit.findVoltage(now, part).half(what);
    }

    /** Tells the reading of the meter at a part. */
    public long reading(int part, int what) {
        if (!now.network.hasPart(part)) {
            return UNKNOWN;
        }
        if (!isHalf(what)) {
            return BAD_VALUE;
        }
        return circuit.findReading(now, part).half(what);
    }

    /** Tells the loss of a part in thousandths. */
    public int loss(int part) {
        if (!now.network.hasPart(part)) {
            return UNKNOWN;
        }
        return circuit.findLoss(now, part);
    }

    /** Tells of a noted reading: its upper number, its lower one, or how many times it was noted. */
    public long noted(int number, int what) {
        if (number < 0 || what < 0 || what > 2) {
            return BAD_VALUE;
        }
        if (number >= now.notes.size) {
            return NONE;
        }
        if (what == 2) {
            return now.notes.times[number];
        }
        return what == 0 ? now.notes.upper[number] : now.notes.lower[number];
    }

    /** Finds the resistance of an arm for a given resistance of the whole network. */
    public long solve(int letter, int upper, int lower, int what) {
        int index = indexOfLetter(letter);
        if (!now.network.hasArm(index)) {
            return UNKNOWN;
        }
        if (upper < 0 || upper > UPPER_LIMIT || lower < 1 || lower > LOWER_LIMIT) {
            return BAD_VALUE;
        }
        if (what < 0 || what > 2) {
            return BAD_VALUE;
        }
        wanted.put(upper, lower);
        int solutions = circuit.solveFor(now, now.network.partOfArm[index], wanted);
        if (what == 0) {
            return solutions;
        }
        return solutions == 1 ? wanted.half(what - 1) : NONE;
    }

    /** Finds the single faults with which the whole network has a given resistance. */
    public int fault(int upper, int lower, int number) {
        if (upper < 0 || upper > UPPER_LIMIT || lower < 0 || lower > LOWER_LIMIT) {
            return BAD_VALUE;
        }
        if ((upper == 0 && lower == 0) || number < 0) {
            return BAD_VALUE;
        }
        if (now.network.size == 0) {
            return NOT_POSSIBLE;
        }
        wanted.put(upper, lower);
        int ahead = number;
        for (int index = 0; index < LETTERS; index++) {
            for (int armState = OPEN; armState <= SHORTED; armState++) {
                if (couldBe(index, armState)) {
                    if (ahead == 0) {
                        return 10 * index + armState;
                    }
                    ahead--;
                }
            }
        }
        return NONE;
    }

    /** Tells which part has the greatest loss, the lowest one of several. */
    public int worst() {
        int found = NONE;
        int greatest = 0;
        for (int part = 0; part < now.network.size; part++) {
            int thousandths = circuit.findLoss(now, part);
            if (found == NONE || thousandths > greatest) {
                found = part;
                greatest = thousandths;
            }
        }
        return found;
    }

    /** Counts parts, arms, unfolded parts, noted readings, folds, states and the like. */
    public int count(int what) {
        switch (what) {
            case 0:
                return now.network.size;
            case 1:
                return now.network.countKind(ARM);
            case 2:
                return now.countUnfolded();
            case 3:
                return now.source;
            case 4:
                return now.meter;
            case 5:
                return now.notes.size;
            case 6:
                return now.notes.countTimes();
            case 7:
                return now.folds;
            case 8:
                return history.size;
            case 9:
                return text.length;
            case 10:
                return now.countNotSound();
            default:
                return BAD_VALUE;
        }
    }

    private boolean couldBe(int index, int armState) {
        if (!now.network.hasArm(index) || now.armState[index] != SOUND) {
            return false;
        }
        trial.copy(now);
        trial.armState[index] = armState;
        circuit.findOhms(trial, NOWHERE);
        return circuit.ohms[trial.network.size - 1].isSame(wanted);
    }

    private static boolean isHalf(int what) {
        return what == 0 || what == 1;
    }

    private static int noneIfNowhere(int index) {
        return index == NOWHERE ? NONE : index;
    }

    private static int indexOfLetter(int code) {
        return code >= 'a' && code < 'a' + LETTERS ? code - 'a' : NOWHERE;
    }

    /** The text that is typed. */
    private static final class Line {
        final char[] characters = new char[TEXT_LIMIT];
        int length = 0;

        void append(char character) {
            if (length < TEXT_LIMIT) {
                characters[length] = character;
                length++;
            }
        }

        int findBlank(int start) {
            int end = start;
            while (end < length && characters[end] != ' ') {
                end++;
            }
            return end;
        }

        /** Whether the text up to an end is this word. */
        boolean startsWith(String word, int end) {
            if (end != word.length() || end > length) {
                return false;
            }
            for (int i = 0; i < end; i++) {
                if (characters[i] != word.charAt(i)) {
                    return false;
                }
            }
            return true;
        }
    }

    /** A fraction in lowest terms; 1 / 0 is infinite. */
    private static final class Fraction {
        long upper = 0;
        long lower = 1;

        void put(long newUpper, long newLower) {
            long divisor = commonDivisor(newUpper, newLower);
            upper = newUpper / divisor;
            lower = newLower / divisor;
        }

        void copy(Fraction other) {
            upper = other.upper;
            lower = other.lower;
        }

        long half(int what) {
            return what == 0 ? upper : lower;
        }

        boolean isInfinite() {
            return lower == 0;
        }

        boolean isZero() {
            return upper == 0;
        }

        boolean isSame(Fraction other) {
            return upper == other.upper && lower == other.lower;
        }

        void invert() {
            long before = upper;
            upper = lower;
            lower = before;
        }

        /** Adds another one, or takes it off with the sign -1; then it has to be finite. */
        void add(Fraction other, int sign) {
            if (lower == 0 || other.lower == 0) {
                put(1, 0);
                return;
            }
            long divisor = commonDivisor(lower, other.lower);
            long ownShare = other.lower / divisor;
            long otherShare = lower / divisor;
            put(upper * ownShare + sign * other.upper * otherShare, lower * ownShare);
        }

        /** Cancels crosswise ahead of the product, so that it stays within a long. */
        void multiply(Fraction other) {
            long down = commonDivisor(upper, other.lower);
            long up = commonDivisor(other.upper, lower);
            long newUpper = (upper / down) * (other.upper / up);
            lower = (lower / up) * (other.lower / down);
            upper = newUpper;
        }

        /** At least 1, so that it can always divide. */
        private static long commonDivisor(long first, long second) {
            long a = first < 0 ? -first : first;
            long b = second < 0 ? -second : second;
            for (int step = 0; step < DIVISOR_STEPS && b != 0; step++) {
                long rest = a % b;
                a = b;
                b = rest;
            }
            return a < 1 ? 1 : a;
        }
    }

    /** The parts of a network; the parts of a part have lower numbers than this part. */
    private static final class Network {
        final int[] kind = new int[PART_LIMIT];
        final int[] around = new int[PART_LIMIT];
        final int[] letter = new int[PART_LIMIT];
        final int[] partOfArm = new int[LETTERS];
        int size = 0;

        Network() {
            for (int index = 0; index < LETTERS; index++) {
                partOfArm[index] = NOWHERE;
            }
        }

        void copy(Network other) {
            for (int part = 0; part < PART_LIMIT; part++) {
                kind[part] = other.kind[part];
                around[part] = other.around[part];
                letter[part] = other.letter[part];
            }
            for (int index = 0; index < LETTERS; index++) {
                partOfArm[index] = other.partOfArm[index];
            }
            size = other.size;
        }

        void clear() {
            size = 0;
            for (int index = 0; index < LETTERS; index++) {
                partOfArm[index] = NOWHERE;
            }
        }

        /** Adds an arm; returns the set (a bit a part) of this part alone. */
        int addArm(int index) {
            int set = addPart(ARM);
            if (set != 0 && index >= 0 && index < LETTERS) {
                partOfArm[index] = size - 1;
                letter[size - 1] = index;
            }
            return set;
        }

        /** Joins a set of parts; a single one stays what it is. Returns the set of the whole alone. */
        int join(int set, int newKind) {
            if (Integer.bitCount(set) < 2) {
                return set;
            }
            int joined = addPart(newKind);
            for (int part = 0; part < size - 1; part++) {
                if ((set >> part & 1) == 1) {
                    around[part] = size - 1;
                }
            }
            return joined;
        }

        private int addPart(int newKind) {
            if (size >= PART_LIMIT) {
                return 0;
            }
            kind[size] = newKind;
            around[size] = NOWHERE;
            letter[size] = NOWHERE;
            size++;
            return 1 << (size - 1);
        }

        boolean hasPart(int part) {
            return part >= 0 && part < size;
        }

        boolean isKind(int part, int wanted) {
            return hasPart(part) && kind[part] == wanted;
        }

        boolean hasArm(int index) {
            return index >= 0 && index < LETTERS && partOfArm[index] != NOWHERE;
        }

        int countParts(int whole) {
            int parts = 0;
            for (int part = 0; part < whole; part++) {
                if (around[part] == whole) {
                    parts++;
                }
            }
            return parts;
        }

        int findFirst(int whole) {
            for (int part = 0; part < whole; part++) {
                if (around[part] == whole) {
                    return part;
                }
            }
            return NOWHERE;
        }

        int countKind(int wanted) {
            int parts = 0;
            for (int part = 0; part < size; part++) {
                if (kind[part] == wanted) {
                    parts++;
                }
            }
            return parts;
        }

        int countArms(int whole) {
            int arms = 0;
            for (int index = 0; index < LETTERS; index++) {
                if (hasArm(index) && (findWayUp(partOfArm[index]) >> whole & 1) == 1) {
                    arms++;
                }
            }
            return arms;
        }

        /** The set (a bit a part) of a part and all parts around it. */
        int findWayUp(int part) {
            int set = 0;
            int next = part;
            for (int level = 0; level < PART_LIMIT && hasPart(next); level++) {
                set |= 1 << next;
                next = around[next];
            }
            return set;
        }
    }

    /** Reads a network from a text without recursion: each open parenthesis has a row of its own. */
    private static final class NetworkReader {
        /** The pieces of the link, and the links of the chain, that are open at each depth. */
        private final int[] pieces = new int[TEXT_LIMIT + 1];
        private final int[] links = new int[TEXT_LIMIT + 1];
        private int depth = 0;

        /** The fault of a network's text, or NOWHERE if it has none. */
        int findFault(Line text) {
            int open = 0;
            int stood = 0;
            boolean wantsPiece = true;
            for (int i = 0; i < text.length; i++) {
                char character = text.characters[i];
                if (wantsPiece) {
                    int index = indexOfLetter(character);
                    if (character == '(') {
                        open++;
                    } else if (index != NOWHERE && (stood >> index & 1) == 0) {
                        stood |= 1 << index;
                        wantsPiece = false;
                    } else {
                        return i;
                    }
                } else if (character == '+' || character == '|') {
                    wantsPiece = true;
                } else if (character == ')' && open > 0) {
                    open--;
                } else {
                    return i;
                }
            }
            return wantsPiece || open > 0 ? text.length : NOWHERE;
        }

        /** Builds the network of a text without a fault. */
        void build(Line text, Network network) {
            network.clear();
            depth = 0;
            clearDepth();
            for (int i = 0; i < text.length; i++) {
                take(text.characters[i], network);
            }
            endChain(network);
        }

        private void take(char character, Network network) {
            if (character == '(') {
                if (depth < TEXT_LIMIT) {
                    depth++;
                    clearDepth();
                }
            } else if (character == ')') {
                int inner = endChain(network);
                if (depth > 0) {
                    depth--;
                    pieces[depth] |= inner;
                }
            } else if (character == '+') {
                endLink(network);
            } else if (character != '|') {
                pieces[depth] |= network.addArm(indexOfLetter(character));
            }
        }

        private void clearDepth() {
            pieces[depth] = 0;
            links[depth] = 0;
        }

        private void endLink(Network network) {
            links[depth] |= network.join(pieces[depth], PARALLEL);
            pieces[depth] = 0;
        }

        private int endChain(Network network) {
            endLink(network);
            return network.join(links[depth], SERIES);
        }
    }

    /** Reads a command from a text, and does it. */
    private static final class Command {
        private static final int SET = 0;
        private static final int OPEN_ARM = 1;
        private static final int SHORT_ARM = 2;
        private static final int MEND_ARM = 3;
        private static final int SOURCE = 4;
        private static final int METER = 5;

        private int action = NOWHERE;
        private int number = 0;
        int letter = NOWHERE;

        /** Reads the command; returns the fault of the text, or NOWHERE if it has none. */
        int read(Line text) {
            int end = text.findBlank(0);
            action = findAction(text, end);
            if (action == NOWHERE) {
                return 0;
            }
            if (takesLetter()) {
                int start = Math.min(end + 1, text.length);
                end = text.findBlank(start);
                letter = end - start == 1 ? indexOfLetter(text.characters[start]) : NOWHERE;
                if (letter == NOWHERE) {
                    return start;
                }
            }
            if (takesNumber()) {
                int start = Math.min(end + 1, text.length);
                end = text.findBlank(start);
                number = readNumber(text, start, end);
                if (number < 1 || number > (action == METER ? 999 : 99)) {
                    return start;
                }
            }
            return end < text.length ? end : NOWHERE;
        }

        boolean takesLetter() {
            return action == SET || action == OPEN_ARM || action == SHORT_ARM || action == MEND_ARM;
        }

        private boolean takesNumber() {
            return action == SET || action == SOURCE || action == METER;
        }

        private static int findAction(Line text, int end) {
            if (text.startsWith("set", end)) {
                return SET;
            }
            if (text.startsWith("open", end)) {
                return OPEN_ARM;
            }
            if (text.startsWith("short", end)) {
                return SHORT_ARM;
            }
            if (text.startsWith("mend", end)) {
                return MEND_ARM;
            }
            if (text.startsWith("source", end)) {
                return SOURCE;
            }
            return text.startsWith("meter", end) ? METER : NOWHERE;
        }

        /** The number of one to three digits without zeros in front, or NOWHERE. */
        private static int readNumber(Line text, int start, int end) {
            if (end - start < 1 || end - start > 3 || text.characters[start] == '0') {
                return NOWHERE;
            }
            int read = 0;
            for (int i = start; i < end; i++) {
                char digit = text.characters[i];
                if (digit < '0' || digit > '9') {
                    return NOWHERE;
                }
                read = 10 * read + (digit - '0');
            }
            return read;
        }

        /** Only for a network that has the arm. */
        boolean isDoneIn(State state) {
            switch (action) {
                case SET:
                    return state.armValue[letter] == number;
                case OPEN_ARM:
                    return state.armState[letter] == OPEN;
                case SHORT_ARM:
                    return state.armState[letter] == SHORTED;
                case MEND_ARM:
                    return state.armState[letter] == SOUND;
                case SOURCE:
                    return state.source == number;
                default:
                    return state.meter == number;
            }
        }

        /** Only for a network that has the arm. */
        void changeIn(State state) {
            switch (action) {
                case SET:
                    state.setArm(letter, number, state.armState[letter]);
                    break;
                case OPEN_ARM:
                    state.setArm(letter, state.armValue[letter], OPEN);
                    break;
                case SHORT_ARM:
                    state.setArm(letter, state.armValue[letter], SHORTED);
                    break;
                case MEND_ARM:
                    state.setArm(letter, state.armValue[letter], SOUND);
                    break;
                case SOURCE:
                    state.source = number;
                    break;
                default:
                    state.meter = number;
                    break;
            }
        }
    }

    /** The readings that were noted, in the order in which they were noted first. */
    private static final class Notes {
        final long[] upper = new long[NOTE_LIMIT];
        final long[] lower = new long[NOTE_LIMIT];
        final int[] times = new int[NOTE_LIMIT];
        int size = 0;

        void copy(Notes other) {
            for (int number = 0; number < NOTE_LIMIT; number++) {
                upper[number] = other.upper[number];
                lower[number] = other.lower[number];
                times[number] = other.times[number];
            }
            size = other.size;
        }

        int find(Fraction told) {
            for (int number = 0; number < size; number++) {
                if (upper[number] == told.upper && lower[number] == told.lower) {
                    return number;
                }
            }
            return NOWHERE;
        }

        /** Notes what find told of: a number, or NOWHERE if it is a new one and there is room. */
        int put(Fraction told, int found) {
            int number = found;
            if (number == NOWHERE && size < NOTE_LIMIT) {
                number = size;
                upper[number] = told.upper;
                lower[number] = told.lower;
                times[number] = 0;
                size++;
            }
            if (number < 0 || number >= size) {
                return 0;
            }
            times[number]++;
            return times[number];
        }

        int countTimes() {
            int sum = 0;
            for (int number = 0; number < size; number++) {
                sum += times[number];
            }
            return sum;
        }
    }

    /** All that the history and the snapshot hold. */
    private static final class State {
        final Network network = new Network();
        final Notes notes = new Notes();
        final int[] armValue = new int[LETTERS];
        final int[] armState = new int[LETTERS];
        final boolean[] isFolded = new boolean[PART_LIMIT];
        int source = 12;
        int meter = 100;
        int folds = 0;

        void copy(State other) {
            network.copy(other.network);
            notes.copy(other.notes);
            for (int index = 0; index < LETTERS; index++) {
                armValue[index] = other.armValue[index];
                armState[index] = other.armState[index];
            }
            for (int part = 0; part < PART_LIMIT; part++) {
                isFolded[part] = other.isFolded[part];
            }
            source = other.source;
            meter = other.meter;
            folds = other.folds;
        }

        void resetArms() {
            for (int index = 0; index < LETTERS; index++) {
                armValue[index] = 10;
                armState[index] = SOUND;
            }
            unfoldEach();
        }

        void setArm(int index, int newValue, int newState) {
            armValue[index] = newValue;
            armState[index] = newState;
            unfoldEach();
        }

        private void unfoldEach() {
            for (int part = 0; part < network.size; part++) {
                isFolded[part] = network.kind[part] == ARM;
            }
        }

        void foldOne(int part) {
            isFolded[part] = true;
            folds++;
        }

        /** Unfolds a part and all around it; returns how many of them were folded. */
        int unfoldFrom(int part) {
            int set = network.findWayUp(part);
            int unfolded = 0;
            for (int each = 0; each < network.size; each++) {
                if ((set >> each & 1) == 1 && isFolded[each]) {
                    isFolded[each] = false;
                    unfolded++;
                }
            }
            return unfolded;
        }

        boolean hasFoldedParts(int whole) {
            for (int part = 0; part < whole; part++) {
                if (network.around[part] == whole && !isFolded[part]) {
                    return false;
                }
            }
            return true;
        }

        boolean isFoldable(int part) {
            return !isFolded[part] && hasFoldedParts(part);
        }

        int findFoldable(boolean greatest) {
            int found = NOWHERE;
            for (int part = 0; part < network.size; part++) {
                if (isFoldable(part) && (greatest || found == NOWHERE)) {
                    found = part;
                }
            }
            return found;
        }

        int countUnfolded() {
            int parts = 0;
            for (int part = 0; part < network.size; part++) {
                if (!isFolded[part]) {
                    parts++;
                }
            }
            return parts;
        }

        int countNotSound() {
            int arms = 0;
            for (int index = 0; index < LETTERS; index++) {
                if (network.hasArm(index) && armState[index] != SOUND) {
                    arms++;
                }
            }
            return arms;
        }
    }

    /** The latest states, in a ring. */
    private static final class History {
        private final State[] states = new State[HISTORY_LIMIT];
        private int oldest = 0;
        int size = 0;

        History() {
            for (int i = 0; i < HISTORY_LIMIT; i++) {
                states[i] = new State();
            }
        }

        void record(State state) {
            if (size < HISTORY_LIMIT) {
                size++;
            } else {
                oldest = (oldest + 1) % HISTORY_LIMIT;
            }
            states[(oldest + size - 1) % HISTORY_LIMIT].copy(state);
        }

        /** Only for a history that is not empty. */
        void giveBack(State state) {
            if (size > 0) {
                state.copy(states[(oldest + size - 1) % HISTORY_LIMIT]);
                size--;
            }
        }
    }

    /** Finds resistances and voltages; each call uses the same rows again. */
    private static final class Circuit {
        final Fraction[] ohms = new Fraction[PART_LIMIT];
        private final Fraction[] volts = new Fraction[PART_LIMIT];
        private final Fraction sum = new Fraction();
        private final Fraction share = new Fraction();
        private final Fraction unloaded = new Fraction();

        Circuit() {
            for (int part = 0; part < PART_LIMIT; part++) {
                ohms[part] = new Fraction();
                volts[part] = new Fraction();
            }
        }

        /** Finds all resistances; the meter is in parallel with one part, or NOWHERE. */
        void findOhms(State state, int metered) {
            Network network = state.network;
            for (int part = 0; part < network.size; part++) {
                if (network.isKind(part, ARM)) {
                    putArm(state, part);
                } else {
                    addUp(network, part, NOWHERE);
                    ohms[part].copy(sum);
                    if (network.isKind(part, PARALLEL)) {
                        ohms[part].invert();
                    }
                }
                if (part == metered) {
                    addMeter(ohms[part], state.meter);
                }
            }
        }

        private void putArm(State state, int part) {
            int index = state.network.letter[part];
            if (index < 0 || index >= LETTERS) {
                return;
            }
            if (state.armState[index] == SOUND) {
                ohms[part].put(state.armValue[index], 1);
            } else if (state.armState[index] == OPEN) {
                ohms[part].put(1, 0);
            } else {
                ohms[part].put(0, 1);
            }
        }

        /**
         * Adds up the parts of a part without one of them: resistances in series, 1 divided by each
         * in parallel. There 1 / 0 and 0 / 1 change places, so infinite ones add nothing, and one of
         * 0 ohms makes the sum infinite.
         */
        private void addUp(Network network, int whole, int without) {
            sum.put(0, 1);
            for (int part = 0; part < whole; part++) {
                if (network.around[part] == whole && part != without) {
                    share.copy(ohms[part]);
                    if (network.isKind(whole, PARALLEL)) {
                        share.invert();
                    }
                    sum.add(share, 1);
                }
            }
        }

        private void addMeter(Fraction place, int meter) {
            share.put(1, meter);
            place.invert();
            place.add(share, 1);
            place.invert();
        }

        Fraction findVoltage(State state, int part) {
            findOhms(state, NOWHERE);
            findVolts(state, part);
            return volts[part];
        }

        Fraction findReading(State state, int part) {
            findOhms(state, part);
            findVolts(state, part);
            return volts[part];
        }

        /** Finds the voltages from the whole down to a part, with the resistances that were found. */
        private void findVolts(State state, int last) {
            Network network = state.network;
            for (int part = network.size - 1; part >= last; part--) {
                int whole = network.around[part];
                if (!network.hasPart(whole)) {
                    volts[part].put(state.source, 1);
                } else if (network.isKind(whole, PARALLEL)) {
                    volts[part].copy(volts[whole]);
                } else {
                    divideVolts(network, whole, part);
                }
            }
        }

        private void divideVolts(Network network, int whole, int part) {
            boolean allOverOthers = ohms[whole].isInfinite() && !ohms[part].isInfinite();
            if (allOverOthers || ohms[whole].isZero()) {
                volts[part].put(0, 1);
                return;
            }
            if (ohms[whole].isInfinite()) {
                share.put(1, Math.max(1, countInfinite(network, whole)));
            } else {
                // The share is cancelled ahead of the voltage, so that no product grows beyond a long.
                share.copy(ohms[whole]);
                share.invert();
                share.multiply(ohms[part]);
            }
            volts[part].copy(volts[whole]);
            volts[part].multiply(share);
        }

        private int countInfinite(Network network, int whole) {
            int parts = 0;
            for (int part = 0; part < whole; part++) {
                if (network.around[part] == whole && ohms[part].isInfinite()) {
                    parts++;
                }
            }
            return parts;
        }

        int findLoss(State state, int part) {
            findOhms(state, NOWHERE);
            findVolts(state, part);
            unloaded.copy(volts[part]);
            if (unloaded.isZero()) {
                return 0;
            }
            findOhms(state, part);
            findVolts(state, part);
            share.copy(volts[part]);
            unloaded.invert();
            share.multiply(unloaded);
            if (share.lower < 1) {
                return 0;
            }
            return (int) Math.floorDiv(1000 * (share.lower - share.upper), share.lower);
        }

        /**
         * Turns the wanted resistance of the whole into the one of an arm; returns how many there
         * are (0, 1 or SEVERAL).
         */
        int solveFor(State state, int armPart, Fraction wanted) {
            Network network = state.network;
            findOhms(state, NOWHERE);
            int way = network.findWayUp(armPart);
            int whole = network.size - 1;
            for (int part = whole - 1; part >= armPart; part--) {
                if ((way >> part & 1) == 1) {
                    addUp(network, network.around[part], part);
                    if (sum.isInfinite()) {
                        // The others alone make the resistance here, so the arm does not matter.
                        return wanted.isSame(ohms[whole]) ? SEVERAL : 0;
                    }
                }
            }
            for (int part = whole - 1; part >= armPart; part--) {
                if ((way >> part & 1) == 1 && !takeOthersOff(network, part, wanted)) {
                    return 0;
                }
            }
            return 1;
        }

        /** From the resistance of the part around to that of the part; false if there is none. */
        private boolean takeOthersOff(Network network, int part, Fraction wanted) {
            int whole = network.around[part];
            addUp(network, whole, part);
            if (network.isKind(whole, SERIES)) {
                wanted.add(sum, -1);
                return wanted.upper >= 0;
            }
            wanted.invert();
            wanted.add(sum, -1);
            boolean isFinite = wanted.upper > 0;
            wanted.invert();
            return isFinite;
        }
    }
}
