import java.lang.reflect.Field;

/** The bounds that the document names of running, fighting and undoing, sentence by sentence (promises 12 to 15). */
public final class MomentBoundsTest {
    private static final int BAD = -1, NOT = -2, FULL = -3, NONE = -4;
    private static final int LEAST = Integer.MIN_VALUE, MOST = Integer.MAX_VALUE;
    /** In each of these it is over, or cannot be. */
    private static final At[] OVER = {At.NEW, At.ONE_MAN, At.WON, At.DOWN, At.WON_TURNED, At.DOWN_TURNED};

    private MomentBoundsTest() {
    }

    private static void due(String call, long got, long want) {
        Check.due(call, got, want);
    }

    public static void main(String[] args) throws ReflectiveOperationException {
        farthestCell();
        fromStartOn();
        downStay();
        comes();
        caughtFromOneOn();
        caughtByOneThere();
        caughtInTheLastCell();
        standsThere();
        lesserNumberFirst();
        comeByItsEnd();
        thereWithHim();
        odds();
        oddsByOthers();
        over();
        draw();
        drawnBySixteen();
        moment();
        lastMoment();
        turn();
        undone();
        eightAreKnown();
        whateverWasDone();
        undo();
        seed();
        Check.end("MomentBoundsTest");
    }

    private static void moments(RunningThree x, int n) {
        for (int k = 0; k < n; k++) {
            x.moment();
        }
    }

    /** A DRAW, worked out in longs. */
    private static int drawnFrom(int d) {
        return (int) ((d * 1103515245L + 12345L) % (1L << 31));
    }

    /** What THE DRAW must be for the next one to leave that over by 16. */
    private static int seedFor(int left) {
        int s = 0;
        while (drawnFrom(s) / 65536 % 16 != left) {
            s++;
        }
        return s;
    }

    // ==== 1

    private static void farthestCell() {
        Check.says("One is in the farthest CELL whose COST is no more than its POINTS");
        // Costs 0 1 3 6 7 8 9 10; he makes 1 a MOMENT.
        RunningThree x = Check.fieldOf("../v....;p11,p11");
        x.start(20);
        int[] cells = {0, 1, 1, 2, 2, 2, 3, 4, 5, 6};
        for (int m = 0; m < cells.length; m++) {
            due("with " + m + " POINTS", x.of(0, 5), cells[m]);
            x.moment();
        }
        due("in the last CELL", x.of(0, 5), 7);
        RunningThree beyond = Check.fieldOf("...;p16,p11");
        beyond.start(20);
        beyond.moment();
        due("with more POINTS than the last one's COST", beyond.of(0, 5), 2);
    }

    private static void fromStartOn() {
        Check.says("(of the RUNNER in MOMENTS from 0 on, of others from START on;");
        // Costs 0 1 3 6 7 ..; the other makes 1 a MOMENT, from 1 on.
        RunningThree x = Check.fieldOf("../v" + ".".repeat(36) + ";p16,p11");
        x.start(1);
        int[] his = {0, 3, 9, 15, 21, 27, 33};
        int[] cells = {0, 0, 1, 1, 2, 2, 2};
        for (int m = 0; m < cells.length; m++) {
            due("he in MOMENT " + m, x.of(0, 5), his[m]);
            due("the other in MOMENT " + m, x.of(1, 5), cells[m]);
            x.moment();
        }
    }

    private static void downStay() {
        Check.says("those that are DOWN stay in CELL 0).");
        RunningThree x = Check.fieldOf(".".repeat(40) + ";p16,p16-6,p15-5");
        x.start(1);
        for (int m = 0; m < 6; m++) {
            due("DOWN, in MOMENT " + m, x.of(1, 5), 0);
            due("HURT 5, in MOMENT " + m, x.of(2, 5), m < 2 ? 0 : 3 * (m - 1));
            x.moment();
        }
        x.hurt(2, 6);
        due("DOWN now", x.of(2, 5), 0);
        x.hurt(1, 5);
        due("no longer DOWN", x.of(1, 5), 20);
        State.answers(At.DOWN, 0, "of", 0, 5);
    }

    private static void comes() {
        Check.says("It COMES to a CELL in the first MOMENT in which its POINTS are no less than its COST.");
        int[] cells = {0, 1, 2, 3, 4, 6, 7, 8, 9, 12};
        int[][] coming = {
            {0, 21, 21, 21, 22, 22, 23, 23, 23, 24},
            {0, 21, 22, 23, 24, 26, 27, 28, 29, 32},
            {0, 22, 24, 26, 28, 32, 34, 36, 38, 44},
            {0, 21, 22, 23, 24, 26, 27, 27, 28, 29}};
        for (int k = 0; k < cells.length; k++) {
            RunningThree x = Check.fieldOf(".".repeat(40) + ";p11,p13,s11,l11,f12");
            x.start(20);
            moments(x, cells[k]);
            due("turn", x.turn(), cells[k]);
            for (int f = 1; f <= 4; f++) {
                due(f + " to CELL " + cells[k], x.of(f, 6), coming[f - 1][k]);
            }
        }
        // A stride of 3, halved and cut: 1 3 4 6 7 9 10 12.
        int[] lame = {0, 1, 2, 2, 3, 4, 5, 6, 6, 8};
        for (int k = 1; k < cells.length; k++) {
            RunningThree x = Check.fieldOf(".".repeat(40) + ";p11,l13");
            x.start(20);
            moments(x, cells[k]);
            x.turn();
            due("LAME to CELL " + cells[k], x.of(1, 6), 20 + lame[k]);
        }
    }

    private static void caughtFromOneOn() {
        Check.says("CAUGHT: in the first MOMENT, from 1 on,");
        RunningThree one = Check.fieldOf(".;p16,p16");
        due("one CELL, and all in it: not in MOMENT 0", one.count(3), 0);
        due("in MOMENT 1", one.moment(), NONE);
        due("in MOMENT 1", one.count(3), 1);
        due("in MOMENT 1", one.count(4), 0);
        // He makes nothing in MOMENT 1, and there they all are.
        RunningThree lame = Check.fieldOf("....;l11,p11");
        lame.start(20);
        due("all in CELL 0: not in MOMENT 0", lame.count(3), 0);
        lame.moment();
        due("all in CELL 0 in MOMENT 1", lame.count(4), 0);
    }

    private static void caughtByOneThere() {
        Check.says("in which one that is not DOWN has come to the CELL where he is,");
        // He makes 2 a MOMENT, the other 3, from 1 on: 2|0 4|3 6|6.
        RunningThree x = Check.fieldOf(".".repeat(40) + ";p12,p13");
        x.start(1);
        moments(x, 2);
        due("a CELL short of him", x.of(1, 5), 3);
        due("a CELL short of him", x.count(3), 0);
        x.moment();
        due("just there", x.count(3), 1);
        due("just there", x.count(4), 6);
        due("just there", x.of(1, 6), 3);
        // He makes 1, the other 6: 1|0 2|6, beyond him.
        RunningThree beyond = Check.fieldOf(".".repeat(40) + ";p11,p16");
        beyond.start(1);
        moments(beyond, 2);
        due("more than there", beyond.count(4), 2);
        due("no farther", beyond.of(1, 5), 2);
        RunningThree down = Check.fieldOf(".".repeat(40) + ";p11,p16-6,p11");
        down.start(1);
        moments(down, 9);
        due("not by one that is DOWN", down.count(3), 0);
        RunningThree hurt = Check.fieldOf(".".repeat(40) + ";p11,p16-5,p11");
        hurt.start(1);
        moments(hurt, 2);
        due("by one that is HURT 5", hurt.count(4), 2);
        RunningThree last = Check.fieldOf(".".repeat(40) + ";p11,p11,p11,p11,p16");
        last.start(1);
        moments(last, 2);
        due("by the last of them", last.count(4), 2);
    }

    private static void caughtInTheLastCell() {
        Check.says("or in which he is in the last CELL.");
        RunningThree x = Check.fieldOf("....;p11,p11");
        x.start(20);
        moments(x, 2);
        due("a CELL short of it", x.of(0, 5), 2);
        due("a CELL short of it", x.count(3), 0);
        due("nobody is HURT by it", x.moment(), NONE);
        due("in it", x.count(4), 3);
        due("in it", x.of(1, 6), 23);
        RunningThree ditch = Check.fieldOf("...v;p11,p11");
        ditch.start(20);
        moments(ditch, 4);
        due("short of it by a POINT", ditch.count(3), 0);
        ditch.moment();
        due("with as many POINTS as it costs", ditch.count(4), 3);
    }

    private static void standsThere() {
        Check.says("Then he stands in that CELL;");
        RunningThree x = Check.fieldOf(".".repeat(40) + ";p16,p11");
        x.start(20);
        moments(x, 2);
        due("turn", x.turn(), 12);
        for (int k = 0; k < 5; k++) {
            due("he runs no farther", x.of(0, 5), 12);
            due("he runs no farther", x.count(4), 12);
            due("nobody there", x.moment(), NONE);
        }
    }

    private static void lesserNumberFirst() {
        Check.says("all that are not DOWN COME to it one behind the other (of like MOMENTS the lesser number first).");
        int otherHurt = seedFor(0);
        RunningThree like = Check.fieldOf(".;p91,p11-6,p11-4,p11-4,p11-4");
        like.turn();
        int[] order = {2, 2, 3, 3, 4, 4};
        for (int who : order) {
            like.seed(otherHurt);
            due("of like MOMENTS the lesser number", like.moment(), who);
        }
        due("all are DOWN", like.count(7), 1);
        // To CELL 6 they come in 6, 3, 2, 3: the third, the second, the fourth, the first.
        RunningThree unlike = Check.fieldOf("." + ".".repeat(6) + ";p96,p11-5,p13-3,p15-5,p14-5");
        unlike.moment();
        int[] coming = {NONE, 6, 3, 2, 3};
        for (int f = 0; f < 5; f++) {
            due("when " + f + " COMES", unlike.of(f, 6), coming[f]);
        }
        int[] who = {3, 2, 2, 2, 4, 1};
        for (int w : who) {
            unlike.seed(otherHurt);
            due("one behind the other", unlike.moment(), w);
        }
    }

    private static void comeByItsEnd() {
        Check.says("A MOMENT behind that: of those that have come by its end and are not DOWN he fights the first:");
        // He TURNS in MOMENT 1 in CELL 2; the other makes 1 a MOMENT and comes in 2, or LAME in 4.
        RunningThree next = Check.fieldOf(".....;p12,p11");
        next.moment();
        next.turn();
        due("comes in 2", next.of(1, 6), 2);
        next.seed(seedFor(0));
        due("a fight in 2", next.moment(), 1);
        RunningThree later = Check.fieldOf(".....;p12,l11");
        later.moment();
        later.turn();
        due("comes in 4", later.of(1, 6), 4);
        later.seed(seedFor(0));
        for (int m = 2; m < 4; m++) {
            due("nobody there in " + m, later.moment(), NONE);
            due("nobody is HURT in " + m, later.of(0, 3) + later.of(1, 3), 0);
        }
        due("a fight in 4", later.moment(), 1);
        RunningThree draws = Check.fieldOf(".....;p12,l11");
        draws.moment();
        draws.turn();
        draws.seed(99);
        moments(draws, 2);
        due("no DRAW without a fight", draws.seed(99), 99);
        draws.moment();
        due("a DRAW by a fight", draws.seed(99), drawnFrom(99));
        // The one that is DOWN came first.
        RunningThree down = Check.fieldOf(".;p91,p11-6,p11");
        down.turn();
        down.seed(seedFor(0));
        due("not one that is DOWN", down.moment(), 2);
    }

    private static void thereWithHim() {
        Check.says("less 2 for each other one that is there,");
        // To CELL 2, in MOMENT 1: the first comes in 1, the second (1 a MOMENT) in 2 or, by START 1 more, in 3.
        for (int start = 0; start <= 1; start++) {
            RunningThree x = Check.fieldOf(".....;p52,p52,p51");
            x.start(start);
            x.moment();
            x.turn();
            due("the first", x.of(1, 6), 1 + start);
            due("the second", x.of(2, 6), 2 + start);
            x.seed(seedFor(7));
            due("a fight in 2", x.moment(), start == 0 ? 0 : 1);
        }
        // The one that is DOWN is not there: ODDS are 8.
        RunningThree down = Check.fieldOf(".;p51,p51,p51-6");
        down.turn();
        down.seed(seedFor(7));
        due("not one that is DOWN", down.moment(), 1);
    }

    /** By ODDS that other one is HURT if what is left over is less, else he. */
    private static void byOdds(String field, int odds) {
        for (int left = 0; left < 16; left++) {
            RunningThree x = Check.fieldOf(field);
            x.turn();
            x.seed(seedFor(left));
            due("ODDS " + odds + " of " + field + ", left over " + left, x.moment(), left < odds ? 1 : 0);
        }
    }

    private static void odds() {
        Check.says("ODDS are 8, and his FORCE less that one's, less 2 for each other one that is there, 1 to 15:");
        byOdds(".;p51,p51", 8);
        byOdds(".;p51,p61", 7);
        byOdds(".;p51,p41", 9);
        byOdds(".;p71,p11", 14);
        byOdds(".;p81,p11", 15);
        byOdds(".;p91,p11", 15);
        byOdds(".;s91,p11", 15);
        byOdds(".;p11,p71", 2);
        byOdds(".;p11,p81", 1);
        byOdds(".;p11,p91", 1);
        byOdds(".;p11,s91", 1);
        // As HURT as they are.
        byOdds(".;p91-4,p51-2", 11);
    }

    private static void oddsByOthers() {
        Check.says("less 2 for each other one that is there, 1 to 15: by so many of 16 that one is HURT 1 more, else he.");
        byOdds(".;p51,p51,p11", 6);
        byOdds(".;p51,p51,p11,p91", 4);
        byOdds(".;p51,p51,p11,p91,p51", 2);
        byOdds(".;p51,p61,p11,p91,p51", 1);
        byOdds(".;p51,p71,p11,p91,p51", 1);
        byOdds(".;p91,p11,p11", 14);
        byOdds(".;s91,p11,p11", 15);
        byOdds(".;s91,p11,p11,p11", 14);
        RunningThree x = Check.fieldOf(".;p51-3,p51-2");
        x.turn();
        x.seed(seedFor(0));
        x.moment();
        due("HURT 1 more", x.of(1, 3), 3);
        due("not he", x.of(0, 3), 3);
        x.seed(seedFor(15));
        due("he", x.moment(), 0);
        due("HURT 1 more", x.of(0, 3), 4);
        due("not the other", x.of(1, 3), 3);
    }

    private static void over() {
        Check.says("It is over when he, or all others, are DOWN.");
        RunningThree he = Check.fieldOf(".;p11-4,p11");
        he.turn();
        he.seed(seedFor(15));
        due("HURT 5", he.moment(), 0);
        due("HURT 5: it goes on", he.count(7), 0);
        he.seed(seedFor(15));
        due("DOWN", he.moment(), 0);
        due("DOWN: over", he.count(7), 2);
        due("DOWN: over", he.moment(), NOT);
        due("no more HURT than DOWN", he.of(0, 3), 6);
        RunningThree all = Check.fieldOf(".;p11,p11-5,p11-5");
        all.turn();
        all.seed(seedFor(0));
        due("one of two", all.moment(), 1);
        due("one of two: it goes on", all.count(7), 0);
        all.seed(seedFor(0));
        due("both", all.moment(), 2);
        due("both: over", all.count(7), 1);
        due("both: over", all.moment(), NOT);
        due("both DOWN", all.count(6), 6);
    }

    private static void draw() {
        Check.says("a number of 31 bits (1 at first) becomes the lowest 31 bits of itself times 1103515245 and 12345 more;");
        int[][] known = {
            {1, 1103527590}, {0, 12345}, {2, 59559187}, {MOST, 1043980748}, {MOST - 1, 2087949151},
            {1 << 30, 1073754169}, {1103527590, 377401575}};
        for (int[] k : known) {
            RunningThree x = Check.fieldOf(".;p51,p51");
            x.turn();
            due("1 at first", x.seed(k[0]), 1);
            x.moment();
            due("a DRAW from " + k[0], x.seed(k[0]), k[1]);
        }
    }

    private static void drawnBySixteen() {
        Check.says("by 65536 (cut), left over by 16, it is what ODDS must be above, for the other one to be HURT.");
        // From these 524288 (8 times 65536) less 1 and that itself are drawn: 7 and 8 are left over, by ODDS of 8.
        due("a DRAW to 524287", drawnFrom(SEVEN), 524287);
        due("a DRAW to 524288", drawnFrom(EIGHT), 524288);
        due("a DRAW to the most", drawnFrom(SEED_OF_MOST), MOST);
        due("ODDS above what is left over", hurtBy(SEVEN), 1);
        due("ODDS as much as what is left over", hurtBy(EIGHT), 0);
        due("the most that can be drawn leaves 15", hurtBy(SEED_OF_MOST), 0);
        due("the least leaves 0", hurtBy(SEED_OF_NONE), 1);
        due("a DRAW to 0", drawnFrom(SEED_OF_NONE), 0);
    }

    private static final int SEVEN = seedOf(524287), EIGHT = seedOf(524288), SEED_OF_MOST = seedOf(MOST), SEED_OF_NONE = seedOf(0);

    /** From what a DRAW makes that; bit by bit, as the multiplier is odd. */
    private static int seedOf(int drawn) {
        int s = 0;
        for (int bit = 0; bit < 31; bit++) {
            if (((drawnFrom(s) ^ drawn) >> bit & 1) != 0) {
                s |= 1 << bit;
            }
        }
        return s;
    }

    private static int hurtBy(int draw) {
        RunningThree x = Check.fieldOf(".;p51,p51");
        x.turn();
        x.seed(draw);
        return x.moment();
    }

    // 12

    private static void moment() {
        Check.says("A MOMENT: who is HURT by it (NONE: nobody). NOT: it is over, or cannot be (count(7) not 0); FULL: MOMENT 400.");
        State.answers(At.RUNNING, NONE, "moment");
        for (At at : OVER) {
            State.unchanged(at, NOT, "moment");
        }
        RunningThree x = At.RUNNING.made();
        x.moment();
        due("a MOMENT more", x.count(2), 3);
        due("to be UNDONE", x.count(5), 3);
        RunningThree y = At.RUNNING.made();
        y.hurt(0, 6);
        due("DOWN", y.moment(), NOT);
        y.hurt(0, 5);
        due("no longer", y.moment(), NONE);
    }

    /** No run of calls comes to MOMENT 400 (all is over by 300), so the object is put there by force. */
    private static void lastMoment() throws ReflectiveOperationException {
        Check.says("FULL: MOMENT 400.");
        RunningThree x = Check.fieldOf(".;p51,p51");
        x.turn();
        putIn(x, 399);
        due("in MOMENT 399", x.moment() >= 0 ? 1 : 0, 1);
        due("to MOMENT 400", x.count(2), 400);
        int his = x.of(0, 3);
        int other = x.of(1, 3);
        int draw = x.seed(5);
        due("in MOMENT 400", x.moment(), FULL);
        due("refused: the MOMENT", x.count(2), 400);
        due("refused: to be UNDONE", x.count(5), 1);
        due("refused: he", x.of(0, 3), his);
        due("refused: the other", x.of(1, 3), other);
        due("refused: THE DRAW", x.seed(draw), 5);
        due("UNDONE", x.undo(), 0);
        due("UNDONE", x.count(2), 399);
        RunningThree over = Check.fieldOf(".;p51,p51-6");
        putIn(over, 400);
        due("over, in MOMENT 400", over.moment(), NOT);
        RunningThree runs = Check.fieldOf(".;p51,p51");
        putIn(runs, 400);
        due("he RUNS, in MOMENT 400", runs.moment(), FULL);
        due("refused: he RUNS", runs.count(3), 0);
    }

    private static void putIn(RunningThree x, int m) throws ReflectiveOperationException {
        Field sceneField = RunningThree.class.getDeclaredField("scene");
        sceneField.setAccessible(true);
        Object scene = sceneField.get(x);
        Field moment = scene.getClass().getDeclaredField("moment");
        moment.setAccessible(true);
        moment.setInt(scene, m);
        due("put there", x.count(2), m);
    }

    // 13

    private static void turn() {
        Check.says("He TURNS now: the CELL. NOT: he has, it cannot be (as moment()).");
        State.answers(At.RUNNING, 3, "turn");
        State.answers(At.NO_IMAGE, 0, "turn");
        State.unchanged(At.TURNED, NOT, "turn");
        State.unchanged(At.FULL_TURNED, NOT, "turn");
        for (At at : OVER) {
            State.unchanged(at, NOT, "turn");
        }
        RunningThree x = At.RUNNING.made();
        x.turn();
        due("no MOMENT", x.count(2), 2);
        due("nothing more to be UNDONE", x.count(5), 2);
        due("he TURNED", x.count(3), 1);
        due("there", x.count(4), 3);
        due("no DRAW", x.seed(1), 77);
    }

    // 14, ==== 3

    private static void undone() {
        Check.says("the latest MOMENT is as it had not been");
        RunningThree x = At.TURNED.made();
        due("how many more", x.undo(), 3);
        due("MOMENT 3", x.count(2), 3);
        due("MOMENT 3: still TURNED", x.count(4), 3);
        due("MOMENT 3: no fight yet", x.of(0, 3), 1);
        due("MOMENT 3: no fight yet", x.of(2, 3), 1);
        due("MOMENT 3: THE DRAW", x.seed(1), 77);
        due("how many more", x.undo(), 2);
        due("MOMENT 2: he had TURNED in it", x.count(4), 3);
        due("how many more", x.undo(), 1);
        due("MOMENT 1: he RUNS", x.count(4), NONE);
        due("MOMENT 1: HURT by hurt()", x.of(2, 3), 1);
        due("how many more", x.undo(), 0);
        due("MOMENT 0", x.count(2), 0);
        due("MOMENT 0: not HURT yet", x.of(2, 3), 0);
        due("no more", x.undo(), NONE);
        due("no more", x.count(2), 0);
        RunningThree caught = Check.fieldOf(".;p51,p51");
        caught.moment();
        due("CAUGHT", caught.count(3), 1);
        caught.undo();
        due("not CAUGHT", caught.count(3), 0);
        due("not CAUGHT", caught.of(1, 6), NONE);
    }

    private static void eightAreKnown() {
        Check.says("(8 are known, older ones lost)");
        for (int n = 1; n <= 20; n++) {
            RunningThree x = Check.fieldOf(".".repeat(40) + ";p11,p11");
            x.start(20);
            for (int m = 0; m < n; m++) {
                x.hurt(0, m % 6);
                x.hurt(1, (m + 2) % 6);
                x.seed(1000 + m);
                x.moment();
                due("known behind " + (m + 1), x.count(5), m < 8 ? m + 1 : 8);
            }
            int known = n < 8 ? n : 8;
            for (int k = 1; k <= known; k++) {
                int m = n - k;
                due("UNDONE", x.undo(), known - k);
                due("UNDONE: to be UNDONE", x.count(5), known - k);
                due("UNDONE: THE MOMENT", x.count(2), m);
                due("UNDONE: he", x.of(0, 3), m % 6);
                due("UNDONE: the other", x.of(1, 3), (m + 2) % 6);
                due("UNDONE: THE DRAW", x.seed(3), 1000 + m);
            }
            due("older ones are lost", x.undo(), NONE);
            due("older ones are lost", x.count(2), n - known);
        }
    }

    private static void whateverWasDone() {
        Check.says("who is HURT how much, THE MOMENT, whether, where he TURNED, THE DRAW are as ahead of it, whatever was done since;");
        RunningThree x = Check.fieldOf(".".repeat(40) + ";p12-1,p11-2,p11-3");
        x.start(9);
        x.seed(55);
        x.moment();
        x.hurt(0, 4);
        x.hurt(1, 6);
        x.hurt(2, 0);
        x.seed(66);
        x.turn();
        due("UNDONE", x.undo(), 0);
        int[] hurts = {1, 2, 3};
        for (int f = 0; f < 3; f++) {
            due("HURT as ahead of it", x.of(f, 3), hurts[f]);
        }
        due("THE MOMENT", x.count(2), 0);
        due("whether he TURNED", x.count(3), 0);
        due("where", x.count(4), NONE);
        due("THE DRAW", x.seed(1), 55);
        due("START stays", x.start(0), 9);
        // What has come to be over since is not over then.
        RunningThree y = Check.fieldOf(".".repeat(40) + ";p12,p11");
        y.start(9);
        y.moment();
        y.hurt(0, 6);
        due("DOWN", y.moment(), NOT);
        due("UNDONE when it is over", y.undo(), 0);
        due("it goes on", y.count(7), 0);
        // When they COME is told anew, if he TURNS elsewhere.
        RunningThree z = Check.fieldOf(".".repeat(40) + ";p12,p11");
        z.start(9);
        moments(z, 2);
        z.turn();
        due("COMES", z.of(1, 6), 13);
        z.undo();
        due("RUNS", z.of(1, 6), NONE);
        z.turn();
        due("COMES to CELL 2", z.of(1, 6), 11);
    }

    private static void undo() {
        Check.says("UNDONE: how many more may be. NONE: none is known.");
        State.unchanged(At.NEW, NONE, "undo");
        State.unchanged(At.ONE_MAN, NONE, "undo");
        State.unchanged(At.NO_IMAGE, NONE, "undo");
        State.answers(At.RUNNING, 1, "undo");
        State.answers(At.TURNED, 3, "undo");
        State.answers(At.WON, 1, "undo");
        State.answers(At.DOWN, 1, "undo");
        State.answers(At.FULL_MEN, 0, "undo");
        RunningThree x = Check.fieldOf(".".repeat(40) + ";p12,p11");
        x.turn();
        due("a TURN alone is no MOMENT", x.undo(), NONE);
        due("he stays TURNED", x.count(3), 1);
    }

    // 15

    private static void seed() {
        Check.says("THE DRAW becomes v: what it was. BAD: below 0.");
        State.answers(At.NEW, 1, "seed", 0);
        State.answers(At.RUNNING, 77, "seed", 0);
        State.answers(At.RUNNING, 77, "seed", MOST);
        State.answers(At.WON, 77, "seed", MOST);
        for (At at : new At[] {At.NEW, At.RUNNING, At.TURNED, At.DOWN}) {
            State.unchanged(at, BAD, "seed", -1);
            State.unchanged(at, BAD, "seed", LEAST);
        }
        RunningThree x = new RunningThree();
        x.seed(0);
        due("0", x.seed(MOST), 0);
        due("the most of 31 bits", x.seed(4), MOST);
        due("refused", x.seed(-1), BAD);
        due("as it was", x.seed(4), 4);
    }
}
