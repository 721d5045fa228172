import java.util.Random;

/** What the document says of all calls: which answer of several, what is refused, how long an object is used. */
public final class AnswersTest {
    private static final int BAD = -1, NOT = -2, FULL = -3, NONE = -4, NULL = -11, CAST = -12, INDEX = -13, SIZE = -14;
    private static final int DRAWN = 12;
    /** Numbers about the bounds of all calls. */
    private static final int[] NUMBERS = {
        Integer.MIN_VALUE, -2, -1, 0, 1, 2, 3, 4, 5, 6, 7, 8, 9, 10, 20, 21, 23, 24, 25, 31, 39, 40, 90, 91, 126, 127, 400, 401,
        1000000, 1000001, Integer.MAX_VALUE};
    /** The calls with how many numbers each takes; field() is not among them, as THE TAPE is empty behind a FAULT. */
    private static final String[] CALLS = {
        "fighter 3", "of 2", "hurt 2", "start 1", "sort 1", "cost 1", "points 2", "type 1", "count 1", "moment 0", "turn 0",
        "undo 0", "seed 1", "chance 1", "best 1", "late 1", "together 2", "ditched 0", "ahead 1", "fields 2", "image 0",
        "restore 0", "strides 5", "far 4", "film 4", "sheet 3", "drop 1", "item 4", "copy 5"};

    private AnswersTest() {
    }

    public static void main(String[] args) {
        numbers();
        theFirstNamed();
        notBehindBad();
        refusedChangesNothing();
        foretoldChangesNothing();
        lastOfAllCalls();
        Check.end("AnswersTest");
    }

    private static void numbers() {
        Check.says("BAD -1 (a number is not as told, there is no such thing), NOT -2 (as told), FULL -3, NONE -4 (as told), "
            + "CAST -12 (of SHEETS another LANE); what the machine finds: NULL -11, INDEX -13, SIZE -14");
        Check.due("BAD", RunningThree.BAD, BAD);
        Check.due("NOT", RunningThree.NOT, NOT);
        Check.due("FULL", RunningThree.FULL, FULL);
        Check.due("NONE", RunningThree.NONE, NONE);
        Check.due("NULL", RunningThree.NULL, NULL);
        Check.due("CAST", RunningThree.CAST, CAST);
        Check.due("INDEX", RunningThree.INDEX, INDEX);
        Check.due("SIZE", RunningThree.SIZE, SIZE);
        Check.due("the least FAULT", Check.fieldOf(".").field(), -20);
    }

    /** Each call is wrong in all that it names, then in one less, and so on. */
    private static void theFirstNamed() {
        Check.says("Answers below 0, of several the first that a call names:");
        State.unchanged(At.FULL_TURNED, BAD, "fighter", 4, 1, 1);
        State.unchanged(At.FULL_TURNED, NOT, "fighter", 3, 1, 1);
        State.unchanged(At.FULL_MEN, BAD, "fighter", 3, 1, 7);
        State.unchanged(At.FULL_MEN, FULL, "fighter", 3, 1, 6);
        State.unchanged(At.TURNED, BAD, "hurt", 0, 7);
        State.unchanged(At.TURNED, NOT, "hurt", 0, 6);
        State.unchanged(At.TURNED, BAD, "start", 21);
        State.unchanged(At.TURNED, NOT, "start", 20);
        State.unchanged(At.FULL_TAPE, BAD, "type", 127);
        State.unchanged(At.FULL_TAPE, FULL, "type", 126);
        State.unchanged(At.TURNED, BAD, "late", 1000001);
        State.unchanged(At.TURNED, NOT, "late", 1000000);
        State.unchanged(At.RUNNING, NONE, "late", 1000000);
        State.unchanged(At.RUNNING, BAD, "strides", 0, 2, 1, -1, 9);
        State.unchanged(At.RUNNING, NULL, "strides", 0, 2, 1, -1, 8);
        State.unchanged(At.RUNNING, CAST, "strides", 0, 0, 1, -1, 8);
        State.unchanged(At.RUNNING, INDEX, "strides", 0, 0, 0, -1, 8);
        State.unchanged(At.RUNNING, NOT, "strides", 0, 0, 0, 0, 8);
        State.unchanged(At.RUNNING, BAD, "far", 2, 1, -1, 2);
        State.unchanged(At.RUNNING, NULL, "far", 2, 1, -1, 1);
        State.unchanged(At.RUNNING, CAST, "far", 0, 1, -1, 1);
        State.unchanged(At.RUNNING, INDEX, "far", 0, 0, -1, 1);
        State.unchanged(At.RUNNING, NONE, "far", 0, 0, 0, 1);
        State.unchanged(At.TURNED, BAD, "film", 25, 2, 1, -1);
        State.unchanged(At.TURNED, NOT, "film", 24, 2, 1, -1);
        State.unchanged(At.RUNNING, NULL, "film", 24, 2, 1, -1);
        State.unchanged(At.RUNNING, CAST, "film", 24, 0, 1, -1);
        State.unchanged(At.RUNNING, INDEX, "film", 24, 0, 0, -1);
        State.unchanged(At.RUNNING, BAD, "sheet", 4, 0, -1);
        State.unchanged(At.RUNNING, BAD, "sheet", 3, 4, -1);
        State.unchanged(At.RUNNING, SIZE, "sheet", 3, 3, -1);
        State.unchanged(At.RUNNING, BAD, "item", 2, 4, -1, 0);
        State.unchanged(At.RUNNING, NULL, "item", 2, 3, -1, 0);
        State.unchanged(At.RUNNING, CAST, "item", 0, 3, -1, 0);
        State.unchanged(At.RUNNING, INDEX, "item", 0, 0, -1, 0);
        State.unchanged(At.RUNNING, BAD, "copy", 2, -1, 4, -1, -1);
        State.unchanged(At.RUNNING, NULL, "copy", 2, -1, 0, -1, -1);
        State.unchanged(At.RUNNING, NULL, "copy", 1, -1, 2, -1, -1);
        State.unchanged(At.RUNNING, CAST, "copy", 1, -1, 0, -1, -1);
        State.unchanged(At.RUNNING, INDEX, "copy", 1, -1, 1, -1, -1);
    }

    private static void notBehindBad() {
        Check.says("(NOT, behind BAD, where count(7) is not 0).");
        String[] calls = {"chance 401", "best 2", "late 1000001", "together 401", "ahead 2", "fields 401"};
        for (At at : new At[] {At.NEW, At.ONE_MAN, At.WON, At.DOWN, At.WON_TURNED, At.DOWN_TURNED}) {
            for (String told : calls) {
                String[] parts = told.split(" ");
                long beyond = Long.parseLong(parts[1]);
                State.answers(at, BAD, parts[0], beyond, 1);
                State.answers(at, NOT, parts[0], beyond - 1, 1);
            }
            State.answers(at, NOT, "ditched");
            // These two name no NOT.
            State.answers(at, 1, "image");
            State.answers(at, at == At.NEW ? NONE : 1, "restore");
        }
    }

    private static void refusedChangesNothing() {
        Check.says("What is refused changes nothing, but as told.");
        Random draws = new Random(17);
        for (At at : At.values()) {
            for (String told : CALLS) {
                String[] parts = told.split(" ");
                for (int k = 0; k < DRAWN; k++) {
                    long[] v = new long[Integer.parseInt(parts[1])];
                    for (int n = 0; n < v.length; n++) {
                        v[n] = NUMBERS[draws.nextInt(NUMBERS.length)];
                    }
                    int answer = Calls.call(at.made(), parts[0], v);
                    // A MOMENT by which nobody is HURT is none that is refused.
                    if (answer < 0 && !parts[0].equals("moment") || answer == NOT) {
                        State.unchanged(at, answer, parts[0], v);
                    }
                }
            }
        }
    }

    private static void foretoldChangesNothing() {
        Check.says("FORETOLD from now (nothing is changed).");
        String[] calls = {"chance 0", "chance 5", "best 0", "late 1000", "together 5", "ditched 0", "ahead 0"};
        for (At at : new At[] {At.RUNNING, At.FULL_MEN, At.TURNED, At.NO_IMAGE}) {
            for (String told : calls) {
                String[] parts = told.split(" ");
                long v = Long.parseLong(parts[1]);
                State.unchanged(at, Calls.call(at.made(), parts[0], v, 1), parts[0], v, 1);
            }
        }
    }

    private static void lastOfAllCalls() {
        Check.says("An object is used for at most 512 calls after it has been made; what later calls answer is free.");
        RunningThree x = new RunningThree();
        int calls = 0;
        for (int k = 0; k < 50; k++) {
            Check.due("call " + ++calls, x.type('.'), 1);
            Check.due("call " + ++calls, x.field(), 0);
            Check.due("call " + ++calls, x.fighter(0, 9, 6), 0);
            Check.due("call " + ++calls, x.fighter(0, 1, 1), 1);
            Check.due("call " + ++calls, x.sheet(k % 4, k % 3, 24), 24);
            Check.due("call " + ++calls, x.image(), 1);
            Check.due("call " + ++calls, x.moment(), NONE);
            Check.due("call " + ++calls, x.moment() >= 0 ? 1 : 0, 1);
            Check.due("call " + ++calls, x.undo(), 1);
            Check.due("call " + ++calls, x.restore(), 1);
        }
        while (calls < 511) {
            Check.due("call " + ++calls, x.count(1), 2);
        }
        Check.due("call 512", x.turn(), 0);
    }
}
