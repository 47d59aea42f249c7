/** The edges of promise 5 and of the term COMMANDS: each place of a fault, each end of a range. */
public final class EdgeCommandsTest {
    private static final Check CHECK = new Check();
    private static final int UNKNOWN = LadderBench.UNKNOWN;
    private static final int NONE = LadderBench.NONE;
    private static final String[] LETTER_WORDS = {"open", "short", "mend"};

    public static void main(String[] args) {
        aTextThatEndsAheadOfItsWord();
        aWordThatIsNotOne();
        aWordThatStandsAlone();
        aLetterThatIsNotOne();
        aNumberThatIsNotOne();
        theEndsOfTheRanges();
        aBlankWhereTheEndHasToBe();
        theFirstFaultOfSeveral();
        eachCharacterInTheWord();
        eachCharacterAsALetter();
        eachCharacterAsADigit();
        fortyCharacters();
        noSuchArm();
        itIsSoAlready();
        performIsAnAct();
        setLeavesTheState();
        theStatesOfAnArm();
        sourceAndMeterNeedNoNetwork();
        CHECK.finish("EdgeCommandsTest");
    }

    private static void fault(String text, int place) {
        Twins.unchanged(CHECK, "perform of '" + text + "'", () -> Scenes.richWith(text),
                LadderBench::perform, -100 - place);
    }

    private static void refused(String text, int due) {
        Twins.unchanged(CHECK, "perform of '" + text + "'", () -> Scenes.richWith(text),
                LadderBench::perform, due);
    }

    private static void done(String text) {
        Twins.recorded(CHECK, "perform of '" + text + "'", () -> Scenes.richWith(text), LadderBench::perform, 1);
        LadderBench bench = Scenes.richWith(text);
        bench.perform();
        CHECK.due("the text stays, '" + text + "'", bench.count(9), text.length());
        CHECK.due("it is so already, '" + text + "'", bench.perform(), NONE);
    }

    private static void aTextThatEndsAheadOfItsWord() {
        fault("", 0);
        fault(" ", 0);
        fault("  ", 0);
        fault(" set b 5", 0);
        fault(" open a", 0);
        Twins.unchanged(CHECK, "perform of no text", LadderBench::new, LadderBench::perform, -100);
    }

    private static void aWordThatIsNotOne() {
        String[] words = {"set", "open", "short", "mend", "source", "meter"};
        for (String word : words) {
            fault(word.substring(0, word.length() - 1), 0);
            fault(word.substring(1), 0);
            fault(word + word.charAt(word.length() - 1) + " a 5", 0);
            fault(word.toUpperCase() + " a 5", 0);
            fault(word + "a", 0);
            fault(word + "\t5", 0);
        }
        fault("a+b", 0);
        fault("5", 0);
        fault("close a", 0);
        fault("opena", 0);
    }

    /** "or the length of the text, if all before is right and it ends too early" */
    private static void aWordThatStandsAlone() {
        String[] words = {"set", "open", "short", "mend", "source", "meter"};
        for (String word : words) {
            fault(word, word.length());
            fault(word + " ", word.length() + 1);
            // An empty word: what stands there instead is the second blank.
            fault(word + "  ", word.length() + 1);
        }
        fault("set a", 5);
        fault("set a ", 6);
        fault("set a  ", 6);
    }

    private static void aLetterThatIsNotOne() {
        for (String word : LETTER_WORDS) {
            int place = word.length() + 1;
            fault(word + " g", place);
            fault(word + " `", place);
            fault(word + " A", place);
            fault(word + " 5", place);
            fault(word + " ab", place);
            fault(word + " a+b", place);
            fault(word + "  a", place);
            fault(word + " a5", place);
        }
        fault("set g 5", 4);
        fault("set 5 a", 4);
        fault("set 5", 4);
        fault("set ab 5", 4);
        fault("set a5", 4);
        fault("set  a 5", 4);
    }

    /** "a number of one to three digits without zeros in front" */
    private static void aNumberThatIsNotOne() {
        String[] starts = {"set b ", "source ", "meter "};
        for (String start : starts) {
            int place = start.length();
            for (String number : new String[] {"0", "00", "01", "05", "007", "010", "099", "1000", "0001", "9999",
                "-5", "+5", "5.", "5a", "a", "a5", "5+", "4294967301", "65541", "\u0661", "1\u0661", "/", ":", "1/", "1:"}) {
                fault(start + number, place);
            }
            fault(start + " 5", place);
        }
    }

    private static void theEndsOfTheRanges() {
        fault("set b 0", 6);
        done("set b 1");
        done("set b 2");
        done("set b 9");
        done("set b 10");
        done("set b 98");
        done("set b 99");
        fault("set b 100", 6);
        fault("set b 101", 6);
        fault("set b 999", 6);
        fault("source 0", 7);
        done("source 1");
        done("source 2");
        done("source 98");
        done("source 99");
        fault("source 100", 7);
        fault("source 999", 7);
        fault("meter 0", 6);
        done("meter 1");
        done("meter 2");
        done("meter 99");
        done("meter 101");
        done("meter 998");
        done("meter 999");
        fault("meter 1000", 6);
        fault("meter 1001", 6);
        CHECK.due("source 1", Scenes.after("a", "source 1").count(3), 1);
        CHECK.due("source 99", Scenes.after("a", "source 99").count(3), 99);
        CHECK.due("meter 1", Scenes.after("a", "meter 1").count(4), 1);
        CHECK.due("meter 999", Scenes.after("a", "meter 999").count(4), 999);
        CHECK.due("set a 1", Scenes.after("a", "set a 1").arm('a', 0), 1);
        CHECK.due("set a 99", Scenes.after("a", "set a 99").arm('a', 0), 99);
    }

    /** "or of a blank that stands where the end has to be" */
    private static void aBlankWhereTheEndHasToBe() {
        for (String text : new String[] {"open a", "short a", "mend d", "set b 5", "set b 99", "source 7", "source 99",
            "meter 8", "meter 999"}) {
            done(text);
            fault(text + " ", text.length());
            fault(text + "  ", text.length());
            fault(text + " x", text.length());
            fault(text + " 5", text.length());
            fault(text + " " + text, text.length());
        }
    }

    private static void theFirstFaultOfSeveral() {
        fault("sett g 0 ", 0);
        fault("set g 0 ", 4);
        fault("set a 0 ", 6);
        fault("set e 0", 6);
        fault("set b 5 0", 7);
        fault("open g ", 5);
        fault("open e ", 6);
        fault("source a 5", 7);
        fault("meter 10 0", 8);
        // A fault stands ahead of UNKNOWN, and UNKNOWN ahead of NONE.
        fault("set f 100", 6);
        refused("set f 10", UNKNOWN);
        refused("mend f", UNKNOWN);
    }

    private static void eachCharacterInTheWord() {
        String text = "source 5";
        for (int place = 0; place < text.length(); place++) {
            for (char character : new char[] {'x', ' ', (char) 0, 'e' + 256}) {
                String spoilt = text.substring(0, place) + character + text.substring(place + 1);
                boolean isRight = spoilt.equals(text);
                int due = place <= 6 && !isRight ? 0 : 7;
                LadderBench bench = Scenes.richWith(spoilt);
                CHECK.due("perform of '" + spoilt + "'", bench.perform(), isRight ? 1 : -100 - due);
            }
        }
    }

    private static void eachCharacterAsALetter() {
        int wrong = 0;
        for (int code = 0; code <= 0xffff; code++) {
            LadderBench bench = new LadderBench();
            Check.write(bench, "open ");
            bench.type((char) code);
            wrong += bench.perform() == ("abcdef".indexOf(code) >= 0 ? UNKNOWN : -105) ? 0 : 1;
        }
        CHECK.due("characters that are wrongly letters or not", wrong, 0);
    }

    private static void eachCharacterAsADigit() {
        int wrong = 0;
        for (int code = 0; code <= 0xffff; code++) {
            LadderBench bench = new LadderBench();
            Check.write(bench, "meter 8");
            bench.type((char) code);
            int due = code == ' ' ? -107 : code >= '0' && code <= '9' ? 1 : -106;
            wrong += bench.perform() == due ? 0 : 1;
            wrong += bench.count(4) == (due == 1 ? 80 + code - '0' : 100) ? 0 : 1;
        }
        CHECK.due("characters that are wrongly digits or not", wrong, 0);
    }

    private static void fortyCharacters() {
        fault("x".repeat(40), 0);
        fault(" ".repeat(40), 0);
        fault("open " + "a".repeat(35), 5);
        fault("open a" + " ".repeat(34), 6);
        fault("meter " + "1".repeat(34), 6);
        fault("source 5" + " ".repeat(32), 8);
    }

    private static void noSuchArm() {
        for (char letter = 'a'; letter <= 'f'; letter++) {
            boolean is = letter <= 'd';
            for (String word : LETTER_WORDS) {
                boolean isNone = word.equals("mend") && letter != 'd' || word.equals("open") && letter == 'd';
                LadderBench bench = Scenes.richWith(word + " " + letter);
                CHECK.due(word + " " + letter, bench.perform(), !is ? UNKNOWN : isNone ? NONE : 1);
            }
            CHECK.due("set " + letter, Scenes.richWith("set " + letter + " 5").perform(), is ? 1 : UNKNOWN);
        }
        refused("open e", UNKNOWN);
        refused("short e", UNKNOWN);
        refused("mend e", UNKNOWN);
        refused("set e 5", UNKNOWN);
        for (String text : new String[] {"open a", "short a", "mend a", "set a 10"}) {
            Twins.unchanged(CHECK, text + " without a network", () -> {
                LadderBench bench = new LadderBench();
                Check.write(bench, text);
                return bench;
            }, LadderBench::perform, UNKNOWN);
            LadderBench gone = Scenes.after("a", "open a");
            Check.read(gone, "b");
            CHECK.due(text + ", an arm of the network before", Check.command(gone, text), UNKNOWN);
        }
    }

    private static void itIsSoAlready() {
        refused("set a 10", NONE);
        refused("set b 20", NONE);
        refused("set d 10", NONE);
        refused("open d", NONE);
        refused("mend a", NONE);
        refused("source 9", NONE);
        refused("meter 100", NONE);
        Twins.unchanged(CHECK, "short of one that is shorted", () -> Scenes.after("a+b", "short b", "short b"),
                LadderBench::perform, NONE);
        // Just beside what it is.
        done("set a 9");
        done("set b 21");
        done("set d 11");
        done("source 8");
        done("source 10");
        done("meter 99");
        done("meter 101");
    }

    private static void performIsAnAct() {
        done("short a");
        done("open c");
        done("short d");
        done("mend d");
        done("set d 99");
        LadderBench bench = new LadderBench();
        CHECK.due("source ahead of any network", Check.command(bench, "source 5"), 1);
        CHECK.due("is recorded", bench.count(8), 1);
        CHECK.due("and undone", bench.undo() + bench.count(3), 12);
    }

    /** "the value of an arm; its state stays" */
    private static void setLeavesTheState() {
        String[] words = {"mend", "open", "short"};
        for (int state = 0; state < words.length; state++) {
            LadderBench bench = Scenes.after("a|b", words[state] + " a", "set a 33");
            CHECK.due("set of one that is " + words[state], bench.arm('a', 0), 33);
            CHECK.due("leaves its state", bench.arm('a', 1), state);
            CHECK.due("not that of another arm", 100 * bench.arm('b', 0) + bench.arm('b', 1), 1000);
        }
    }

    private static void theStatesOfAnArm() {
        String[] words = {"mend", "open", "short"};
        for (int from = 0; from < words.length; from++) {
            for (int to = 0; to < words.length; to++) {
                LadderBench bench = Scenes.after("a|b", "set a 33", words[from] + " a");
                CHECK.due(words[from] + " and then " + words[to], Check.command(bench, words[to] + " a"), from == to ? NONE : 1);
                CHECK.due("its state", bench.arm('a', 1), to);
                CHECK.due("its value stays", bench.arm('a', 0), 33);
                CHECK.due("not that of another arm", bench.arm('b', 1), 0);
                CHECK.due("arms that are not sound", bench.count(10), to == 0 ? 0 : 1);
            }
        }
    }

    private static void sourceAndMeterNeedNoNetwork() {
        LadderBench bench = new LadderBench();
        CHECK.due("source", Check.command(bench, "source 99"), 1);
        CHECK.due("the meter is as it was", bench.count(4), 100);
        CHECK.due("meter", Check.command(bench, "meter 999"), 1);
        CHECK.due("the source is as it was", bench.count(3), 99);
        CHECK.due("the same source", Check.command(bench, "source 99"), NONE);
        CHECK.due("the same meter", Check.command(bench, "meter 999"), NONE);
        CHECK.due("two states", bench.count(8), 2);
    }
}
