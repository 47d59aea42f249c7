import java.util.Random;

/** Long runs of calls, the same at each start, answered by LadderBench and by the Model. */
public final class ModelTest {
    private static final int RUNS = 3000;
    private static final int CALLS = 512;
    /** What one step and tellAll() call at most, so that no object is called more than 512 times. */
    private static final int TELLING = 130;
    private static final int[] HARD_VALUES = {99, 98, 97, 95, 89, 83, 79, 73};

    private final Check check;
    private final Random random;
    private final LadderBench bench = new LadderBench();
    private final Model model = new Model();
    private final boolean isHard;
    private int calls = 0;

    private ModelTest(Check check, int seed) {
        this.check = check;
        random = new Random(seed);
        isHard = seed % 3 == 0;
    }

    public static void main(String[] args) {
        Check check = new Check();
        for (int seed = 0; seed < RUNS; seed++) {
            new ModelTest(check, seed).run();
        }
        check.finish("ModelTest");
    }

    private void run() {
        while (calls < CALLS - TELLING) {
            step();
        }
        tellAll();
    }

    private void due(String call, long got, long want) {
        calls++;
        check.due(call, got, want);
    }

    private void step() {
        int choice = random.nextInt(100);
        if (choice < 4) {
            write(network());
            due("readNetwork", bench.readNetwork(), model.readNetwork());
        } else if (choice < 16) {
            write(command());
            due("perform", bench.perform(), model.perform());
        } else if (choice < 45) {
            act();
        } else {
            tell();
        }
    }

    private void write(String text) {
        due("clearText", bench.clearText(), model.clearText());
        for (int i = 0; i < text.length(); i++) {
            due("type", bench.type(text.charAt(i)), model.type(text.charAt(i)));
        }
    }

    private int pick(int... from) {
        return from[random.nextInt(from.length)];
    }

    private String network() {
        StringBuilder shuffled = new StringBuilder();
        StringBuilder rest = new StringBuilder("abcdef");
        while (rest.length() > 0) {
            int at = random.nextInt(rest.length());
            shuffled.append(rest.charAt(at));
            rest.deleteCharAt(at);
        }
        int arms = random.nextInt(4) == 0 ? 1 + random.nextInt(6) : 4 + random.nextInt(3);
        String text = tree(shuffled.substring(0, arms));
        return random.nextInt(5) == 0 ? spoil(text, "abcdefg()+| ") : text;
    }

    private String tree(String letters) {
        if (letters.length() == 1) {
            return random.nextInt(8) == 0 ? "(" + letters + ")" : letters;
        }
        int cut = 1 + random.nextInt(letters.length() - 1);
        String sign = random.nextBoolean() ? "+" : "|";
        String text = tree(letters.substring(0, cut)) + sign + tree(letters.substring(cut));
        return random.nextInt(2) == 0 ? "(" + text + ")" : text;
    }

    private String spoil(String text, String signs) {
        StringBuilder spoilt = new StringBuilder(text);
        int at = random.nextInt(text.length() + 1);
        char sign = signs.charAt(random.nextInt(signs.length()));
        int way = random.nextInt(4);
        if (way == 0) {
            spoilt.insert(at, sign);
        } else if (way == 1 && at < text.length()) {
            spoilt.setCharAt(at, sign);
        } else if (way == 2 && at < text.length()) {
            spoilt.deleteCharAt(at);
        } else {
            spoilt.setLength(at);
        }
        return spoilt.toString();
    }

    private String command() {
        char letter = (char) ('a' + random.nextInt(6));
        String text;
        switch (random.nextInt(8)) {
            case 0:
            case 1:
            case 2:
                text = "set " + letter + " " + (isHard ? pick(HARD_VALUES) : 1 + random.nextInt(99));
                break;
            case 3:
                text = "open " + letter;
                break;
            case 4:
                text = "short " + letter;
                break;
            case 5:
                text = "mend " + letter;
                break;
            case 6:
                text = "source " + (isHard ? 97 : random.nextInt(101));
                break;
            default:
                text = "meter " + (isHard ? pick(997, 991, 983) : random.nextInt(1001));
                break;
        }
        return random.nextInt(6) == 0 ? spoil(text, " abg0159s") : text;
    }

    private int anyPart() {
        return random.nextInt(13) - 1;
    }

    private void act() {
        int part = anyPart();
        boolean greatest = random.nextBoolean();
        switch (random.nextInt(isHard ? 14 : 16)) {
            case 0:
            case 1:
            case 2:
            case 3:
            case 4:
                due("fold(" + part + ")", bench.fold(part), model.fold(part));
                break;
            case 5:
                due("foldAll", bench.foldAll(greatest), model.foldAll(greatest));
                break;
            case 6:
            case 7:
                due("unfold(" + part + ")", bench.unfold(part), model.unfold(part));
                break;
            case 8:
            case 9:
            case 10:
            case 11:
                due("note(" + part + ")", bench.note(part), model.note(part));
                break;
            case 12:
                due("keep", bench.keep(), model.keep());
                break;
            case 13:
                due("restore", bench.restore(), model.restore());
                break;
            default:
                due("undo", bench.undo(), model.undo());
                break;
        }
    }

    private void tell() {
        int part = anyPart();
        int what = random.nextInt(10) == 0 ? pick(-1, 2, 3, 8, 11) : random.nextInt(2);
        int letter = 'a' + random.nextInt(7);
        switch (random.nextInt(14)) {
            case 0:
                due("part", bench.part(part, what * 3 - 1), model.part(part, what * 3 - 1));
                break;
            case 1:
                due("arm", bench.arm(letter, what + 1), model.arm(letter, what + 1));
                break;
            case 2:
                due("resistance", bench.resistance(part, what), model.resistance(part, what));
                break;
            case 3:
                due("folded", bench.folded(part, what), model.folded(part, what));
                break;
            case 4:
                due("voltage", bench.voltage(part, what), model.voltage(part, what));
                break;
            case 5:
                due("reading", bench.reading(part, what), model.reading(part, what));
                break;
            case 6:
                due("loss", bench.loss(part), model.loss(part));
                break;
            case 7:
                int number = random.nextInt(22) - 1;
                due("noted", bench.noted(number, what), model.noted(number, what));
                break;
            case 8:
            case 9:
                solve(letter, what);
                break;
            case 10:
            case 11:
                fault();
                break;
            case 12:
                due("worst", bench.worst(), model.worst());
                break;
            default:
                int kind = random.nextInt(13) - 1;
                due("count(" + kind + ")", bench.count(kind), model.count(kind));
                break;
        }
    }

    private int wholeHalf(int what, int limit, int otherwise) {
        long told = model.resistance(model.count(0) - 1, what);
        return told >= 0 && told <= limit ? (int) told : otherwise;
    }

    /** Half of the time the resistance that the whole has, where it fits. */
    private void solve(int letter, int what) {
        int upper = random.nextInt(10002) - 1;
        int lower = random.nextInt(101);
        if (random.nextBoolean()) {
            upper = wholeHalf(0, 9999, upper);
            lower = wholeHalf(1, 99, lower);
        } else if (random.nextBoolean()) {
            upper = random.nextInt(100);
            lower = pick(1, 2, 3);
        }
        due("solve", bench.solve(letter, upper, lower, what), model.solve(letter, upper, lower, what));
        due("solve", bench.solve(letter, upper, lower, 0), model.solve(letter, upper, lower, 0));
    }

    private void fault() {
        int upper = random.nextInt(200) - 1;
        int lower = random.nextInt(4);
        int number = random.nextInt(4) - 1;
        if (random.nextBoolean()) {
            upper = wholeHalf(0, 9999, upper);
            lower = wholeHalf(1, 99, lower);
        }
        due("fault", bench.fault(upper, lower, number), model.fault(upper, lower, number));
        due("fault", bench.fault(1, 0, number), model.fault(1, 0, number));
    }

    private void tellAll() {
        for (int what = 0; what <= 10; what++) {
            due("count(" + what + ")", bench.count(what), model.count(what));
        }
        for (int part = 0; part < model.count(0); part++) {
            due("resistance", bench.resistance(part, 0), model.resistance(part, 0));
            due("voltage", bench.voltage(part, 0), model.voltage(part, 0));
            due("voltage", bench.voltage(part, 1), model.voltage(part, 1));
            due("reading", bench.reading(part, 0), model.reading(part, 0));
            due("reading", bench.reading(part, 1), model.reading(part, 1));
            due("loss", bench.loss(part), model.loss(part));
        }
        due("worst", bench.worst(), model.worst());
    }
}
