/** The bounds that the document names of THE TAPE and of a FIELD as a TEXT, sentence by sentence (promises 9, 10). */
public final class FieldBoundsTest {
    private static final int BAD = -1, FULL = -3, NONE = -4;
    private static final int LEAST = Integer.MIN_VALUE, MOST = Integer.MAX_VALUE;
    private static final String FIVE = ".;p11,p11,p11,p11,p11";

    private FieldBoundsTest() {
    }

    private static void due(String call, long got, long want) {
        Check.due(call, got, want);
    }

    public static void main(String[] args) {
        letters();
        fullTape();
        fullFieldOnTheTape();
        emptyTape();
        signs();
        firstSign();
        fightersInText();
        kindsInText();
        digits();
        hurtInText();
        placesOfFaults();
        blanks();
        allStays();
        inPlaceOfAll();
        nothingToUndo();
        Check.end("FieldBoundsTest");
    }

    /** A FAULT at that place, the text read on an object that has a FIELD. */
    private static void fault(String text, int place) {
        RunningThree x = Check.fieldOf("../;p11,p22");
        due("field() of '" + text + "'", Check.read(x, text), -20 - place);
        due("behind '" + text + "' the ground stays", x.count(0), 3);
        due("behind '" + text + "' the fighters stay", x.count(1), 2);
        due("behind '" + text + "' the tape is empty", x.type('.'), 1);
    }

    private static void good(String text, int fighters) {
        RunningThree x = new RunningThree();
        due("field() of '" + text + "'", Check.read(x, text), fighters);
        due("behind '" + text + "': fighters", x.count(1), fighters);
        due("behind '" + text + "' the tape is empty", x.type('.'), 1);
    }

    // 9

    private static void letters() {
        Check.says("One letter more behind THE TAPE: how many it has. BAD: not 32 .. 126; FULL: 100.");
        for (int letter = -2; letter <= 300; letter++) {
            boolean told = letter >= 32 && letter <= 126;
            due("type(" + letter + ")", new RunningThree().type(letter), told ? 1 : BAD);
        }
        for (long w : new long[] {31, 127, -1, 46 + 256, 46 - 256, 46 + 65536, LEAST, MOST}) {
            State.unchanged(At.RUNNING, BAD, "type", w);
            State.unchanged(At.FULL_TAPE, BAD, "type", w);
        }
        State.answers(At.RUNNING, 14, "type", 32);
        State.answers(At.RUNNING, 14, "type", 126);
    }

    private static void fullTape() {
        Check.says("BAD: not 32 .. 126; FULL: 100.");
        RunningThree x = new RunningThree();
        for (int k = 1; k <= 100; k++) {
            due("letter " + k, x.type(k == 100 ? ' ' : '.'), k);
        }
        due("one more", x.type('.'), FULL);
        due("one more", x.type(' '), FULL);
        due("a wrong one more", x.type(127), BAD);
        State.unchanged(At.FULL_TAPE, FULL, "type", '.');
        State.unchanged(At.FULL_TAPE, FULL, "type", 'x');
        State.unchanged(At.FULL_TAPE, FULL, "type", ' ');
        due("the 41st sign is the fault", x.field(), -60);
        due("empty then", x.type('.'), 1);
    }

    /** All 100 letters are read, the one that was refused is not. */
    private static void fullFieldOnTheTape() {
        Check.says("THE TAPE, which is empty then, is a FIELD: how many FIGHTERS.");
        String text = ".".repeat(40) + " ".repeat(60 - ";p11,p11".length()) + ";p11,p11";
        RunningThree x = new RunningThree();
        Check.typeAll(x, text);
        due("one more", x.type(','), FULL);
        due("the one refused is not read", x.field(), 2);
        due("all the signs", x.count(0), 40);
        due("empty then", x.type('.'), 1);
        due("empty then", x.field(), 0);
        due("a field of its own", x.count(0), 1);
        due("empty again", x.field(), -20);
        RunningThree wrongAtTheEnd = new RunningThree();
        Check.typeAll(wrongAtTheEnd, text.substring(0, 99) + "7");
        due("the 100th letter is read", wrongAtTheEnd.field(), -119);
        RunningThree endOfAll = new RunningThree();
        Check.typeAll(endOfAll, text.substring(1) + ",");
        due("the end behind 100 letters", endOfAll.field(), -120);
    }

    // 10, ==== 3

    private static void emptyTape() {
        Check.says("(the end: how many there are)");
        fault("", 0);
        fault(" ", 1);
        fault(" ".repeat(100), 100);
        fault(".;", 2);
        fault(".; ", 3);
        fault(".;p", 3);
        fault(".;p1", 4);
        fault(".;p1 ", 5);
        fault(".;p11-", 6);
        fault(".;p11,", 6);
    }

    private static void signs() {
        Check.says("A FIELD is a TEXT: 1 to 40 signs . (PLAIN) / (HILL) v (DITCH), the first one . (CELLS from 0 on);");
        for (int n = 1; n <= 43; n++) {
            String ground = "." + "/".repeat(n - 1);
            if (n <= 40) {
                good(ground, 0);
                good(ground + ";p11", 1);
                due("as many CELLS", Check.fieldOf(ground).count(0), n);
            } else {
                fault(ground, 40);
                fault(ground + ";p11", 40);
            }
        }
        fault(";p11", 0);
        for (int letter = 33; letter <= 126; letter++) {
            if ("./v".indexOf(letter) < 0) {
                fault(".." + (char) letter, letter == ';' ? 3 : 2);
            }
        }
        RunningThree x = Check.fieldOf(".v/.");
        int[] sorts = {0, 2, 1, 0, BAD};
        for (int c = 0; c < sorts.length; c++) {
            due("CELLS from 0 on", x.sort(c), sorts[c]);
        }
    }

    private static void firstSign() {
        Check.says("the first one .");
        for (int letter = 33; letter <= 126; letter++) {
            String text = (char) letter + ".";
            if (letter == '.') {
                good(text, 0);
            } else {
                fault(text, 0);
            }
        }
        fault("  /", 2);
        fault(" v.", 1);
    }

    private static void fightersInText() {
        Check.says("then perhaps ; and 1 to 5 FIGHTERS with , between:");
        good(".", 0);
        StringBuilder text = new StringBuilder(".");
        for (int n = 1; n <= 5; n++) {
            text.append(n == 1 ? ';' : ',').append("p1").append(n);
            good(text.toString(), n);
        }
        fault(".;", 2);
        fault(text + ",p11", text.length());
        fault(text + ",", text.length());
        fault(text + " , p11", text.length() + 1);
        fault(text + ";", text.length());
        fault(text + "p", text.length());
        fault(".;,p11", 2);
        fault(".;p11,,p11", 6);
        fault(".;p11;p11", 5);
        fault(".;p11p11", 5);
        fault(".,p11", 1);
        fault(".p11", 1);
        RunningThree x = Check.fieldOf(text.toString());
        for (int f = 0; f < 5; f++) {
            due("as they come", x.of(f, 2), f + 1);
        }
    }

    private static void kindsInText() {
        Check.says("p s l f (KINDS in this order)");
        for (int letter = 33; letter <= 126; letter++) {
            int kind = "pslf".indexOf(letter);
            String text = ".;" + (char) letter + "11";
            if (kind >= 0) {
                due("KIND by " + (char) letter, Check.fieldOf(text).of(0, 0), kind);
            } else {
                fault(text, 2);
            }
        }
    }

    private static void digits() {
        Check.says("a digit 1 .. 9 (STRENGTH), a digit 1 .. 6 (PACE)");
        for (int letter = 33; letter <= 126; letter++) {
            int digit = letter - '0';
            String strength = ".;p" + (char) letter + "1";
            if (digit >= 1 && digit <= 9) {
                due("STRENGTH by " + (char) letter, Check.fieldOf(strength).of(0, 1), digit);
            } else {
                fault(strength, 3);
            }
            String pace = ".;p1" + (char) letter;
            if (digit >= 1 && digit <= 6) {
                due("PACE by " + (char) letter, Check.fieldOf(pace).of(0, 2), digit);
            } else {
                fault(pace, 4);
            }
        }
    }

    private static void hurtInText() {
        Check.says("perhaps - and a digit 0 .. 6 (HURT; 0)");
        due("none told", Check.fieldOf(".;p11").of(0, 3), 0);
        due("none told of a second one", Check.fieldOf(".;p11-6,p11").of(1, 3), 0);
        for (int letter = 33; letter <= 126; letter++) {
            int digit = letter - '0';
            String text = ".;p11-" + (char) letter;
            if (digit >= 0 && digit <= 6) {
                due("HURT by " + (char) letter, Check.fieldOf(text).of(0, 3), digit);
            } else {
                fault(text, 6);
            }
            if (letter != '-' && letter != ',') {
                fault(".;p11" + (char) letter, 5);
            }
        }
        fault(".;p11-00", 7);
        fault(".;p11-0-0", 7);
    }

    private static void placesOfFaults() {
        Check.says("FAULTS: -20 less the place of the first letter (behind blanks) that can't stand there");
        fault("x", 0);
        fault(".x", 1);
        fault(".xx", 1);
        fault(".  x", 3);
        fault("  .  x", 5);
        fault(".;p11 x", 6);
        fault(".; p 1 7", 7);
        fault(".;p11 - 7", 8);
        fault(" ".repeat(98) + ".x", 99);
    }

    private static void blanks() {
        Check.says("blanks count for nothing.");
        RunningThree x = new RunningThree();
        due("blanks", Check.read(x, "  .  /v .  ;  s  9  4  -  2  ,  f 1 6  "), 2);
        int[][] all = {{1, 9, 4, 2}, {3, 1, 6, 0}};
        for (int f = 0; f < 2; f++) {
            for (int what = 0; what < 4; what++) {
                due("of(" + f + ", " + what + ")", x.of(f, what), all[f][what]);
            }
        }
        int[] sorts = {0, 1, 2, 0, BAD};
        for (int c = 0; c < sorts.length; c++) {
            due("sort(" + c + ")", x.sort(c), sorts[c]);
        }
        good(" ".repeat(99) + ".", 0);
        good("." + " ".repeat(99), 0);
    }

    private static void allStays() {
        Check.says("A FAULT (all stays).");
        String[] texts = {"", "x", "..;p12,p13,p1", ".".repeat(41), FIVE + ",p11", ".....;s99-6x"};
        for (At at : new At[] {At.NEW, At.RUNNING, At.TURNED, At.WON, At.DOWN_TURNED}) {
            for (String text : texts) {
                for (int way = 0; way < State.TAPE; way++) {
                    RunningThree x = at.made();
                    Check.read(x, " ;");
                    due("field() of " + text, Check.read(x, text) <= -20 ? 1 : 0, 1);
                    RunningThree y = at.made();
                    Check.read(y, " ;");
                    State.alike(at + ": field() of " + text, x, y, way);
                }
            }
        }
    }

    private static void inPlaceOfAll() {
        Check.says("in place of THE GROUND and all FIGHTERS; MOMENT 0, he RUNS (START, THE DRAW stay).");
        for (At at : new At[] {At.RUNNING, At.TURNED, At.FULL_TURNED, At.WON, At.DOWN_TURNED}) {
            RunningThree x = at.made();
            x.seed(4321);
            due(at + ": the text on the tape", x.field(), 2);
            int[] counts = {3, 2, 0, 0, NONE, 0, 0, 0, BAD};
            for (int what = 0; what < counts.length; what++) {
                due(at + ": count(" + what + ")", x.count(what), counts[what]);
            }
            int[][] all = {{2, 4, 5, 2, 3, 0, NONE}, {1, 3, 3, 0, 5, 0, NONE}};
            for (int f = 0; f < 2; f++) {
                for (int what = 0; what < 7; what++) {
                    due(at + ": of(" + f + ", " + what + ")", x.of(f, what), all[f][what]);
                }
            }
            due(at + ": no third", x.of(2, 0), BAD);
            due(at + ": START stays", x.start(0), 2);
            due(at + ": THE DRAW stays", x.seed(1), 4321);
        }
        RunningThree none = At.TURNED.made();
        none.field();
        due("no FIGHTERS", Check.read(none, "."), 0);
        due("no FIGHTERS", none.count(1), 0);
        due("no FIGHTERS", none.of(0, 0), BAD);
    }

    private static void nothingToUndo() {
        Check.says("a FIELD as a TEXT, a new FIGHTER leave nothing to be UNDONE.");
        for (At at : new At[] {At.RUNNING, At.TURNED}) {
            RunningThree x = at.made();
            x.field();
            due(at + ": a FIELD leaves nothing", x.count(5), 0);
            due(at + ": a FIELD leaves nothing", x.undo(), NONE);
            RunningThree y = at.made();
            Check.read(y, "!");
            due(at + ": a FAULT leaves all", y.count(5), at == At.RUNNING ? 2 : 4);
        }
    }
}
