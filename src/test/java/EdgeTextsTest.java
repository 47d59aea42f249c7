/** The edges of promises 1 to 4 and of the terms NETWORKS and PARTS, a sentence each. */
public final class EdgeTextsTest {
    private static final Check CHECK = new Check();
    /** 39 characters. No network has 40: letters, signs between them and pairs of parentheses are odd. */
    private static final String LONGEST = "((((((((((((((((((a+b))))))))))))))))))";
    private static final int NONE = LadderBench.NONE;
    private static final int UNKNOWN = LadderBench.UNKNOWN;

    public static void main(String[] args) {
        aNewBenchHasNoNetwork();
        theTextIsEmptyAtFirst();
        theTextHasAtMostFortyCharacters();
        anyCharacterIsTyped();
        clearTextTellsTheLengthThatItHad();
        aChainHasOneOrMoreLinks();
        aLinkHasOneOrMorePieces();
        anArmIsALetterFromAToF();
        aChainInParentheses();
        noLetterStandsTwice();
        noParenthesisClosesWithoutOneThatOpens();
        theFaultIsTheFirstOneNotAllowed();
        theFaultIsTheLengthIfItEndsTooEarly();
        eachCharacterAtItsPlace();
        aPieceOrLinkAloneIsNoPart();
        partsAreNumberedAsTheyEnd();
        theWholeHasTheGreatestNumber();
        thereAreNoPartsAtFirst();
        readNetworkTakesThePlace();
        readNetworkIsAnAct();
        readNetworkWithAFaultChangesNothing();
        CHECK.finish("EdgeTextsTest");
    }

    // Promise 1, and "at first" of the terms

    private static void aNewBenchHasNoNetwork() {
        LadderBench bench = new LadderBench();
        int[] counts = {0, 0, 0, 12, 100, 0, 0, 0, 0, 0, 0};
        for (int what = 0; what < counts.length; what++) {
            CHECK.due("a new object, count(" + what + ")", bench.count(what), counts[what]);
        }
        CHECK.due("no snapshot at first", bench.restore(), NONE);
        CHECK.due("no history at first", bench.undo(), NONE);
        CHECK.due("no reading at first", bench.noted(0, 0), NONE);
        CHECK.due("nothing to fold at first", bench.foldAll(true), NONE);
        CHECK.due("no worst part at first", bench.worst(), NONE);
        CHECK.due("no faults at first", bench.fault(1, 0, 0), LadderBench.NOT_POSSIBLE);
        CHECK.due("a snapshot of no parts", new LadderBench().keep(), 0);
        LadderBench other = new LadderBench();
        Check.read(other, "a+b");
        CHECK.due("each object is its own", new LadderBench().count(0), 0);
    }

    private static void thereAreNoPartsAtFirst() {
        for (int part : new int[] {-1, 0, 1, 10, 11, Integer.MAX_VALUE, Integer.MIN_VALUE}) {
            LadderBench bench = new LadderBench();
            String call = "ahead of any network, part " + part;
            CHECK.due(call, bench.part(part, 0), UNKNOWN);
            CHECK.due(call, bench.resistance(part, 0), UNKNOWN);
            CHECK.due(call, bench.folded(part, 0), UNKNOWN);
            CHECK.due(call, bench.voltage(part, 0), UNKNOWN);
            CHECK.due(call, bench.reading(part, 0), UNKNOWN);
            CHECK.due(call, bench.loss(part), UNKNOWN);
            Twins.unchanged(CHECK, call, LadderBench::new, x -> x.fold(part), UNKNOWN);
            Twins.unchanged(CHECK, call, LadderBench::new, x -> x.unfold(part), UNKNOWN);
            Twins.unchanged(CHECK, call, LadderBench::new, x -> x.note(part), UNKNOWN);
        }
        for (int letter = 'a' - 1; letter <= 'g'; letter++) {
            LadderBench bench = new LadderBench();
            CHECK.due("ahead of any network, arm " + letter, bench.arm(letter, 0), UNKNOWN);
            CHECK.due("ahead of any network, solve " + letter, bench.solve(letter, 1, 1, 0), UNKNOWN);
        }
    }

    // "There is a text of at most 40 characters, empty at first."

    private static void theTextIsEmptyAtFirst() {
        LadderBench bench = new LadderBench();
        CHECK.due("the text is empty at first", bench.count(9), 0);
        CHECK.due("it had no length", bench.clearText(), 0);
        CHECK.due("an empty network ends too early", bench.readNetwork(), -100);
        CHECK.due("an empty command ends too early", bench.perform(), -100);
        CHECK.due("the first character", bench.type('a'), 1);
    }

    private static void theTextHasAtMostFortyCharacters() {
        LadderBench bench = new LadderBench();
        for (int length = 1; length <= 40; length++) {
            CHECK.due("type character " + length, bench.type('('), length);
            CHECK.due("the length is " + length, bench.count(9), length);
        }
        CHECK.due("type character 41", bench.type('('), LadderBench.NOT_POSSIBLE);
        CHECK.due("type character 41 again", bench.type(')'), LadderBench.NOT_POSSIBLE);
        CHECK.due("the text has 40", bench.count(9), 40);
        CHECK.due("all 40 stand", bench.readNetwork(), -140);
        CHECK.due("40 are cleared", bench.clearText(), 40);
        CHECK.due("and there is room again", bench.type('a'), 1);
        for (char character : new char[] {'x', ')', ' ', (char) 0, (char) 65535}) {
            Twins.unchanged(CHECK, "type behind 40 characters", () -> Scenes.richWith("(".repeat(40)),
                    x -> x.type(character), LadderBench.NOT_POSSIBLE);
        }
        CHECK.due("type behind 39 characters", Scenes.richWith(LONGEST).type(')'), 40);
    }

    private static void anyCharacterIsTyped() {
        for (int code : new int[] {0, 1, 10, 31, 32, 127, 128, 255, 256, 0xd800, 0xdfff, 0xfffe, 0xffff}) {
            LadderBench bench = Scenes.richWith("a");
            CHECK.due("type character number " + code, bench.type((char) code), 2);
            CHECK.due("type is no act", bench.count(8), 5);
            CHECK.due("it stands behind the text", bench.readNetwork(), -101);
        }
        LadderBench bench = Scenes.richWith("");
        bench.type('e');
        CHECK.due("type changes the text alone", bench.count(0), 7);
        bench.undo();
        CHECK.due("the text is no part of a state", bench.count(9), 1);
        bench.restore();
        CHECK.due("nor of a snapshot", bench.count(9), 1);
    }

    private static void clearTextTellsTheLengthThatItHad() {
        for (int length : new int[] {0, 1, 39, 40}) {
            LadderBench bench = Scenes.richWith("(".repeat(length));
            CHECK.due("clearText of " + length, bench.clearText(), length);
            CHECK.due("no length then", bench.count(9), 0);
            CHECK.due("clearText is no act", bench.count(8), 5);
            CHECK.due("clearText again", bench.clearText(), 0);
            CHECK.due("the text is empty", bench.readNetwork(), -100);
            CHECK.due("the network stays", bench.count(0), 7);
        }
        Twins.unchanged(CHECK, "clearText of no text", () -> Scenes.richWith(""), LadderBench::clearText, 0);
    }

    // "A network is written as follows ..."

    private static void network(String text, int due) {
        LadderBench bench = Scenes.richWith(text);
        CHECK.due("readNetwork of '" + text + "'", bench.readNetwork(), due);
        CHECK.due("its parts", bench.count(0), due > 0 ? due : 7);
        CHECK.due("the text stays", bench.count(9), text.length());
    }

    private static void aChainHasOneOrMoreLinks() {
        network("a", 1);
        network("a+b", 3);
        network("a+b+c", 4);
        network("a+b+c+d+e+f", 7);
        network("+", -100);
        network("+a", -100);
        network("a+", -102);
        network("a++b", -102);
        network("a+b+", -104);
    }

    private static void aLinkHasOneOrMorePieces() {
        network("a|b", 3);
        network("a|b|c", 4);
        network("a|b|c|d|e|f", 7);
        network("|", -100);
        network("|a", -100);
        network("a|", -102);
        network("a||b", -102);
        network("a+|b", -102);
        network("a|+b", -102);
        network("a|b|", -104);
    }

    private static void anArmIsALetterFromAToF() {
        for (char letter = 'a'; letter <= 'f'; letter++) {
            network(String.valueOf(letter), 1);
            CHECK.due("its arm", Check.benchOf(String.valueOf(letter)).arm(letter, 2), 0);
        }
        for (char letter : new char[] {'a' - 1, 'g', 'z', 'A', 'F', 'a' + 256, 'f' + 256, 'a' + 0xff00, '0', '-'}) {
            network(String.valueOf(letter), -100);
            network("b+" + letter, -102);
        }
    }

    private static void aChainInParentheses() {
        network("(a)", 1);
        network("((a))", 1);
        network("(a+b)", 3);
        network("(a|b)|c", 5);
        network("()", -101);
        network("(+a)", -101);
        network("(a+)", -103);
        network("(a|)", -103);
        network("(", -101);
        network("(a", -102);
        network("(a+b", -104);
        network("((a)", -104);
        network("(a)(b)", -103);
        network("a(b)", -101);
        network("(a)b", -103);
        network(LONGEST, 3);
        network(LONGEST.replace("a+b", "a|b"), 3);
        network("(" + LONGEST, -140);
        network(LONGEST + ")", -139);
        network(LONGEST + "+", -140);
        network(LONGEST + "|", -140);
        network(LONGEST + " ", -139);
    }

    private static void noLetterStandsTwice() {
        network("a+b+c+d+e+f", 7);
        for (char letter = 'a'; letter <= 'f'; letter++) {
            network("a+b+c+d+e+f+" + letter, -112);
            network("(a|b)+(c|(d+e))+f|" + letter, -118);
            network(letter + "+" + letter, -102);
            network(letter + "|" + letter, -102);
            network("(" + letter + ")+((" + letter, -106);
        }
        LadderBench bench = Check.benchOf("a+b");
        CHECK.due("a letter of the network before may stand", Check.read(bench, "b|a"), 3);
        CHECK.due("also after a fault", Check.read(bench, "a+a") + Check.read(bench, "a"), -101);
    }

    private static void noParenthesisClosesWithoutOneThatOpens() {
        network(")", -100);
        network("a)", -101);
        network("(a))", -103);
        network("a+b)", -103);
        network("(a)+b)", -105);
        network("((a))", 1);
        network("((a)))", -105);
        network("((a)+(b)))", -109);
    }

    // "The fault of a text is the index, from 0, of the first character that is not allowed at its place"

    private static void theFaultIsTheFirstOneNotAllowed() {
        for (int place = 0; place < LONGEST.length(); place++) {
            network(LONGEST.substring(0, place) + "x" + LONGEST.substring(place + 1), -100 - place);
        }
        network("a++b++", -102);
        network("a+a)", -102);
        network("a)+a", -101);
        network("gg", -100);
        network("(a b", -102);
        network("a ", -101);
        network(" a", -100);
        network(" ", -100);
        network("a+ b", -102);
    }

    // "or the length of the text if it ends too early"

    private static void theFaultIsTheLengthIfItEndsTooEarly() {
        for (int length = 0; length < LONGEST.length(); length++) {
            network(LONGEST.substring(0, length), -100 - length);
        }
        for (int length : new int[] {1, 39, 40}) {
            network("(".repeat(length), -100 - length);
        }
        network("a+b+c+d+e+f+", -112);
        network("a+b+c+d+e+f|(", -113);
    }

    private static void eachCharacterAtItsPlace() {
        int wrong = 0;
        for (int code = 0; code <= 0xffff; code++) {
            LadderBench bench = new LadderBench();
            bench.type((char) code);
            bench.type('x');
            wrong += bench.readNetwork() == ("abcdef(".indexOf(code) >= 0 ? -101 : -100) ? 0 : 1;
            bench.clearText();
            bench.type('(');
            bench.type('a');
            bench.type((char) code);
            bench.type('x');
            wrong += bench.readNetwork() == ("+|)".indexOf(code) >= 0 ? -103 : -102) ? 0 : 1;
        }
        CHECK.due("characters that are wrongly allowed or not", wrong, 0);
    }

    // PARTS

    /** For each part: its kind, its number of parts, the part around it. */
    private static void parts(String text, String kinds, int[] sizes, int[] around) {
        LadderBench bench = Check.benchOf(text);
        CHECK.due("parts of " + text, bench.count(0), kinds.length());
        for (int part = 0; part < kinds.length(); part++) {
            String call = text + ", part " + part;
            CHECK.due(call + ", kind", bench.part(part, 0), "asp".indexOf(kinds.charAt(part)));
            CHECK.due(call + ", parts", bench.part(part, 1), sizes[part]);
            CHECK.due(call + ", around", bench.part(part, 3), around[part]);
        }
        CHECK.due(text + ", behind the last", bench.part(kinds.length(), 0), UNKNOWN);
    }

    private static void aPieceOrLinkAloneIsNoPart() {
        parts("a", "a", new int[] {0}, new int[] {NONE});
        parts("(((a)))", "a", new int[] {0}, new int[] {NONE});
        parts("a|b", "aap", new int[] {0, 0, 2}, new int[] {2, 2, NONE});
        parts("a+b", "aas", new int[] {0, 0, 2}, new int[] {2, 2, NONE});
        parts("((a)+(b))", "aas", new int[] {0, 0, 2}, new int[] {2, 2, NONE});
        parts("((a)|((b)))", "aap", new int[] {0, 0, 2}, new int[] {2, 2, NONE});
        parts("((a+b))|(c)", "aasap", new int[] {0, 0, 2, 0, 2}, new int[] {2, 2, 4, 4, NONE});
        parts("(a+b)+c", "aasas", new int[] {0, 0, 2, 0, 2}, new int[] {2, 2, 4, 4, NONE});
        parts("a|(b|c)", "aaapp", new int[] {0, 0, 0, 2, 2}, new int[] {4, 3, 3, 4, NONE});
        parts("a+b|c", "aaaps", new int[] {0, 0, 0, 2, 2}, new int[] {4, 3, 3, 4, NONE});
        parts("a+b+c+d+e+f", "aaaaaas", new int[] {0, 0, 0, 0, 0, 0, 6}, new int[] {6, 6, 6, 6, 6, 6, NONE});
    }

    private static void partsAreNumberedAsTheyEnd() {
        parts("f+e|(d+c)", "aaaasps", new int[] {0, 0, 0, 0, 2, 2, 2}, new int[] {6, 5, 4, 4, 5, 6, NONE});
        CHECK.due("in the text's order, not the alphabet's", Check.benchOf("f+e|(d+c)").part(0, 4), 'f');
        CHECK.due("the last arm", Check.benchOf("f+e|(d+c)").part(3, 4), 'c');
        parts("(a|b+c)|d", "aapasap", new int[] {0, 0, 2, 0, 2, 0, 2}, new int[] {2, 2, 4, 4, 6, 6, NONE});
        parts("a|(b+c|(d+(e|f)))", "aaaaaapspsp", new int[] {0, 0, 0, 0, 0, 0, 2, 2, 2, 2, 2},
                new int[] {10, 9, 8, 7, 6, 6, 7, 8, 9, 10, NONE});
        parts("a|b+c|d+e|f", "aapaapaaps", new int[] {0, 0, 2, 0, 0, 2, 0, 0, 2, 3},
                new int[] {2, 2, 9, 5, 5, 9, 8, 8, 9, NONE});
    }

    private static void theWholeHasTheGreatestNumber() {
        String[] networks = {"a", "a+b", "a+b|(c+d)", "a|b+c|d+e|f", "a|(b+c|(d+(e|f)))"};
        int[] greatest = {0, 2, 6, 9, 10};
        for (int i = 0; i < networks.length; i++) {
            LadderBench bench = Check.benchOf(networks[i]);
            for (int part = 0; part <= 11; part++) {
                String call = networks[i] + ", around " + part;
                int around = bench.part(part, 3);
                CHECK.due(call, around == NONE ? 1 : 0, part == greatest[i] ? 1 : 0);
                CHECK.due(call + " is known", around == UNKNOWN ? 1 : 0, part > greatest[i] ? 1 : 0);
                CHECK.due(call + " is greater", around >= 0 && around <= part ? 1 : 0, 0);
            }
        }
    }

    // Promise 4

    private static void readNetworkTakesThePlace() {
        LadderBench bench = Scenes.foldedWhole();
        Check.command(bench, "short a");
        Check.command(bench, "meter 7");
        CHECK.due("noted ahead", bench.count(6), 2);
        CHECK.due("readNetwork", Check.read(bench, "d|a"), 3);
        CHECK.due("the text stays", bench.count(9), 3);
        for (char letter = 'a'; letter <= 'f'; letter++) {
            boolean is = letter == 'a' || letter == 'd';
            CHECK.due("value of " + letter, bench.arm(letter, 0), is ? 10 : UNKNOWN);
            CHECK.due("state of " + letter, bench.arm(letter, 1), is ? 0 : UNKNOWN);
            CHECK.due("part of " + letter, bench.arm(letter, 2), is ? letter == 'd' ? 0 : 1 : UNKNOWN);
        }
        CHECK.due("all are sound", bench.count(10), 0);
        CHECK.due("the source stays", bench.count(3), 9);
        CHECK.due("the meter stays", bench.count(4), 7);
        CHECK.due("the readings stay", bench.count(5) + 10 * bench.count(6), 22);
        CHECK.due("the folds stay", bench.count(7), 3);
        CHECK.due("the whole is not folded", bench.part(2, 2), 0);
        CHECK.due("the part 3 is gone", bench.part(3, 0), UNKNOWN);
        LadderBench same = Scenes.after("a+b", "set a 5", "open b");
        same.foldAll(true);
        CHECK.due("the same network again", Check.read(same, "a+b"), 3);
        CHECK.due("its arms are new", same.arm('a', 0) + same.arm('b', 1), 10);
        CHECK.due("it is unfolded", same.count(2), 1);
    }

    private static void readNetworkIsAnAct() {
        String[] texts = {"a", "a+b|(c+d)", "a|(b+c|(d+(e|f)))", LONGEST};
        int[] sizes = {1, 7, 11, 3};
        for (int i = 0; i < texts.length; i++) {
            String text = texts[i];
            int parts = sizes[i];
            Twins.recorded(CHECK, "readNetwork of " + text, () -> Scenes.richWith(text), LadderBench::readNetwork, parts);
            Twins.recorded(CHECK, "readNetwork of " + text + " ahead of any", () -> {
                LadderBench bench = new LadderBench();
                Check.write(bench, text);
                return bench;
            }, LadderBench::readNetwork, parts);
        }
    }

    private static void readNetworkWithAFaultChangesNothing() {
        String[] texts = {"", "x", "+", "a+", "a+b|(c+d", "a+b|(c+d))", "a+a", "a+b|(c+a)", "(" + LONGEST, LONGEST + ")"};
        int[] places = {0, 0, 0, 2, 8, 9, 2, 7, 40, 39};
        for (int i = 0; i < texts.length; i++) {
            String text = texts[i];
            Twins.unchanged(CHECK, "readNetwork of '" + text + "'", () -> Scenes.richWith(text),
                    LadderBench::readNetwork, -100 - places[i]);
        }
        Twins.unchanged(CHECK, "readNetwork of no text", LadderBench::new, LadderBench::readNetwork, -100);
    }
}
