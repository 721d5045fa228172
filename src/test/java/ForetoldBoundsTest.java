/** The bounds that the document names of what is FORETOLD, sentence by sentence (promises 16 to 24). */
public final class ForetoldBoundsTest {
    private static final int BAD = -1, NOT = -2, NONE = -4, NULL = -11;
    private static final int LEAST = Integer.MIN_VALUE, MOST = Integer.MAX_VALUE;
    /** In each of these count(7) is not 0. */
    private static final At[] OVER = {At.NEW, At.ONE_MAN, At.WON, At.DOWN, At.WON_TURNED, At.DOWN_TURNED};
    /** He makes 3 in 2 MOMENTS; by T 60 and 61 CHANCE is 371352, the most by then, by T 62 it is more. */
    private static final String LONG_RUN = "..vvvvvvvvvvvvvvvvvvvvvvvvv//....v/v/v..;l63,p12,l13-1,p12-1";
    private static final int BY_60 = 371352, BY_62 = 374226;
    /** By T 0 both are there (6, then 8 of 16); by 1 in CELL 2 he meets them singly (8, 8); then he is CAUGHT. */
    private static final String STRUNG_OUT = "...;p16-5,p16-5,l11-5";

    private ForetoldBoundsTest() {
    }

    private static void due(String call, long got, long want) {
        Check.due(call, got, want);
    }

    public static void main(String[] args) {
        cutAtEachStep();
        ends();
        nobodyThere();
        chance();
        beforeNow();
        turnedWhateverT();
        nowAndSixty();
        ofLikeOnesTheFirst();
        best();
        late();
        lateCall();
        togetherFewest();
        whetherTheyShould();
        together();
        ditchedPlain();
        ditchedMore();
        ditched();
        aheadNotDown();
        ahead();
        fieldsRuns();
        fieldsPlayedOut();
        fields();
        image();
        restore();
        Check.end("ForetoldBoundsTest");
    }

    private static RunningThree longRun() {
        RunningThree x = Check.fieldOf(LONG_RUN);
        x.start(20);
        return x;
    }

    private static void moments(RunningThree x, int n) {
        for (int k = 0; k < n; k++) {
            x.moment();
        }
    }

    /** NOT, behind BAD, where count(7) is not 0, and perhaps when he has TURNED; nothing is changed. */
    private static void refusedWhenOver(boolean alsoTurned, String call, long... v) {
        for (At at : OVER) {
            State.unchanged(at, NOT, call, v);
        }
        if (alsoTurned) {
            State.unchanged(At.TURNED, NOT, call, v);
            State.unchanged(At.FULL_TURNED, NOT, call, v);
        }
    }

    /** BAD wherever it is tried, also where it would be NOT. */
    private static void refusedAnywhere(String call, long[]... wrong) {
        for (long[] w : wrong) {
            State.unchanged(At.RUNNING, BAD, call, w);
            State.unchanged(At.TURNED, BAD, call, w);
            State.unchanged(At.NEW, BAD, call, w);
            State.unchanged(At.WON, BAD, call, w);
        }
    }

    /** Asking changes nothing; the answer is that of another object asked the same. */
    private static int asked(At at, String call, long... v) {
        int answer = Calls.call(at.made(), call, v);
        State.unchanged(at, answer, call, v);
        return answer;
    }

    // ==== 2

    private static void cutAtEachStep() {
        Check.says("behind each MOMENT ODDS times the CHANCE with the other one HURT, and 16 less ODDS times that with himself "
            + "HURT, together, by 16 (cut);");
        // 15 of 16 six times: 937500, 878906.25, 823974.375 (of what was cut), 772475.6, 724195.3, 678932.8.
        due("cut six times", Check.fieldOf(".;s91-5,p11").chance(0), 678932);
        due("cut twice", Check.fieldOf(".;s91-5,p11-4").chance(0), 878906);
        due("cut three times", Check.fieldOf(".;s91-5,p11-3").chance(0), 823974);
        due("nothing to cut", Check.fieldOf(".;s91-5,p11-5").chance(0), 937500);
        due("1 of 16", Check.fieldOf(".;p11-5,s91-5").chance(0), 62500);
        due("1 of 16 of 1 of 16, cut", Check.fieldOf(".;p11-5,s91-4").chance(0), 3906);
        // 1000000 by 16 six times is less than 1.
        due("cut to nothing", Check.fieldOf(".;p11-5,s91").chance(0), 0);
        // 8 of 16: 500000; with two blows to bear he has 750000.
        due("both ways together", Check.fieldOf(".;p11-4,p11-5").chance(0), 750000);
        due("both ways together", Check.fieldOf(".;p11-4,p11-4").chance(0), 500000);
    }

    private static void ends() {
        Check.says("a MILLION when all others are DOWN, 0 when he is.");
        RunningThree last = Check.fieldOf(".;p11,p11-6,p11-5,p11-6");
        due("a MILLION if the last were DOWN", last.ahead(1), 1000000);
        due("less while it is not", last.best(1) < 1000000 ? 1 : 0, 1);
        due("0 when he is, behind one blow", Check.fieldOf(".;p11-5,p11-5").chance(0), 500000);
    }

    private static void nobodyThere() {
        Check.says("where nobody is there it is that behind the MOMENT;");
        // He TURNS in CELL 2; they come 2 and 4 MOMENTS behind START.
        for (int start : new int[] {3, 20}) {
            RunningThree x = Check.fieldOf(".....;p14-4,p13-5,l11-5");
            x.start(start);
            x.moment();
            int foretold = x.chance(1);
            due("turn", x.turn(), 2);
            int first = x.of(1, 6);
            due("COMES", first, start + 2);
            due("COMES", x.of(2, 6), start + 4);
            for (int m = 1; m + 1 < first; m++) {
                due("the same as in MOMENT " + m, x.chance(0), foretold);
                due("nobody there", x.moment(), NONE);
            }
            due("the same ahead of the fight", x.chance(0), foretold);
        }
    }

    // 16

    private static void chance() {
        Check.says("CHANCE by T (0 .. 400; before now: now). BAD; NOT.");
        asked(At.RUNNING, "chance", 0);
        int caught = asked(At.RUNNING, "chance", 400);
        due("behind where he is CAUGHT it is that", At.RUNNING.made().chance(399), caught);
        refusedAnywhere("chance", new long[] {-1}, new long[] {401}, new long[] {LEAST}, new long[] {MOST});
        refusedWhenOver(false, "chance", 0);
        refusedWhenOver(false, "chance", 400);
        due("by 0", Check.fieldOf(STRUNG_OUT).chance(0), 187500);
        due("by 1", Check.fieldOf(STRUNG_OUT).chance(1), 250000);
        due("by 400", Check.fieldOf(STRUNG_OUT).chance(400), 250000);
    }

    private static void beforeNow() {
        Check.says("before now: now");
        RunningThree x = longRun();
        due("by 0", x.chance(0), 110370);
        due("by 30", x.chance(30), 234011);
        moments(x, 30);
        due("by 0 when it is 30", x.chance(0), 234011);
        due("by 29 when it is 30", x.chance(29), 234011);
        due("by 30 when it is 30", x.chance(30), 234011);
        due("by 60 when it is 30", x.chance(60), BY_60);
        due("by 62 when it is 30", x.chance(62), BY_62);
    }

    private static void turnedWhateverT() {
        Check.says("(He has TURNED: whatever T is.)");
        int now = At.TURNED.made().chance(4);
        for (long t : new long[] {0, 3, 4, 5, 400}) {
            State.unchanged(At.TURNED, now, "chance", t);
        }
        State.unchanged(At.TURNED, BAD, "chance", -1);
        State.unchanged(At.TURNED, BAD, "chance", 401);
        RunningThree x = Check.fieldOf(STRUNG_OUT);
        x.turn();
        due("by 1, but he has TURNED in 0", x.chance(1), 187500);
        due("by 400, but he has TURNED in 0", x.chance(400), 187500);
        RunningThree caught = Check.fieldOf(STRUNG_OUT);
        caught.moment();
        for (int t : new int[] {0, 1, 2, 400}) {
            due("by " + t + ", but he was CAUGHT in 1", caught.chance(t), 250000);
        }
    }

    // 17

    private static void nowAndSixty() {
        Check.says("TURN: the MOMENT T, from now to now and 60, by which it is most, of like ones the first; how much.");
        RunningThree x = longRun();
        for (int now = 0; now < 4; now++) {
            due("when, from " + now, x.best(0), now < 2 ? 60 : 62);
            due("how much, from " + now, x.best(1), now < 2 ? BY_60 : BY_62);
            x.moment();
        }
        moments(x, 59);
        due("now it is 63", x.count(2), 63);
        due("when, from 63", x.best(0), 63);
        due("how much, from 63", x.best(1), BY_62);
    }

    private static void ofLikeOnesTheFirst() {
        Check.says("by which it is most, of like ones the first;");
        RunningThree all = Check.fieldOf("....;p11-5,p11-5");
        due("all alike: now", all.best(0), 0);
        due("all alike", all.best(1), 500000);
        RunningThree x = Check.fieldOf(STRUNG_OUT);
        due("by 1 as by all behind it", x.best(0), 1);
        due("by 1 as by all behind it", x.best(1), 250000);
        RunningThree y = Check.fieldOf(".......;p11-5,p11-5");
        y.start(9);
        moments(y, 3);
        due("all alike: now, in 3", y.best(0), 3);
    }

    private static void best() {
        Check.says("TURN: T (0), how much (1). BAD; NOT: also he has TURNED.");
        asked(At.RUNNING, "best", 0);
        asked(At.RUNNING, "best", 1);
        asked(At.FULL_MEN, "best", 1);
        refusedAnywhere("best", new long[] {-1}, new long[] {2}, new long[] {LEAST}, new long[] {MOST});
        refusedWhenOver(true, "best", 0);
        refusedWhenOver(true, "best", 1);
    }

    // 18

    private static void late() {
        Check.says("LATE: the last of these T by which it is as told or more; none.");
        RunningThree x = longRun();
        due("as told by 60", x.late(BY_60), 60);
        due("1 more", x.late(BY_60 + 1), NONE);
        due("by 62 alone, from 0 on", x.late(BY_62), NONE);
        x.moment();
        due("as told by 61", x.late(BY_60), 61);
        due("by 62 alone, from 1 on", x.late(BY_62), NONE);
        x.moment();
        due("by 62, from 2 on", x.late(BY_62), 62);
        due("1 more, from 2 on", x.late(BY_62 + 1), NONE);
        due("0 is always so", x.late(0), 62);
        // By 0 31250 (1 of 16, then 8); by 1 and from then on 23437 (6, then 1, cut).
        RunningThree y = Check.fieldOf("./;p16-5,s91-5,p16-5");
        due("by 0 alone", y.late(31250), 0);
        due("by 0 alone", y.late(23438), 0);
        due("by all", y.late(23437), 60);
        due("by none", y.late(31251), NONE);
    }

    private static void lateCall() {
        Check.says("LATE by a CHANCE (0 .. 1000000). BAD; NOT: likewise; NONE.");
        asked(At.RUNNING, "late", 0);
        State.answers(At.RUNNING, 62, "late", 0);
        State.unchanged(At.RUNNING, NONE, "late", 1000000);
        refusedAnywhere("late", new long[] {-1}, new long[] {1000001}, new long[] {LEAST}, new long[] {MOST});
        refusedWhenOver(true, "late", 0);
        refusedWhenOver(true, "late", 1000000);
    }

    // 19

    private static void togetherFewest() {
        Check.says("TOGETHER: CHANCE by T, if all others that are not DOWN had in each MOMENT POINTS as the one of them that has "
            + "fewest then; the most by T from now to now and 60;");
        RunningThree x = Check.fieldOf(STRUNG_OUT);
        for (int t : new int[] {0, 1, 2, 60, 61, 400}) {
            due("both at once, by " + t, x.together(t, 0), 187500);
        }
        due("the most", x.together(0, 1), 187500);
        due("the most, whatever t is told", x.together(400, 1), 187500);
        // The slow one is DOWN: one alone is there.
        due("not those DOWN", Check.fieldOf("...;p16-5,p16-5,l11-6").together(1, 0), 500000);
        due("HURT 5 is not DOWN", Check.fieldOf("...;p16-5,l11-5,p16-6").together(1, 0), 500000);
        // All at once the lesser number is first (1 of 16, then 8).
        due("of like MOMENTS the lesser number first", Check.fieldOf("./;p16-5,s91-5,p16-5").together(1, 0), 31250);
    }

    private static void whetherTheyShould() {
        Check.says("whether they should (1, 0): that is less than CHANCE by TURN.");
        due("less", Check.fieldOf(STRUNG_OUT).together(0, 2), 1);
        due("just as much", Check.fieldOf(".;p11-5,p11-5,p11-5").together(0, 2), 0);
        // 201 together and by T 0; from 1 on at most 149 strung out.
        RunningThree x = Check.fieldOf("..../..v....//...v........;p55,p43-2,s54,l66-1");
        x.start(3);
        due("just as much", x.together(0, 2), 0);
        x.moment();
        due("together", x.together(1, 1), 201);
        due("strung out", x.best(1), 149);
        due("more", x.together(1, 2), 0);
    }

    private static void together() {
        Check.says("TOGETHER by T (0), the best CHANCE of it (1), whether they should (2). BAD; NOT: likewise.");
        for (int what = 0; what <= 2; what++) {
            asked(At.RUNNING, "together", 0, what);
            asked(At.RUNNING, "together", 400, what);
            refusedAnywhere("together", new long[] {-1, what}, new long[] {401, what}, new long[] {LEAST, what}, new long[] {MOST, what});
            refusedWhenOver(true, "together", 0, what);
            refusedWhenOver(true, "together", 400, what);
        }
        refusedAnywhere("together", new long[] {0, -1}, new long[] {0, 3}, new long[] {400, LEAST}, new long[] {400, MOST});
    }

    // 20

    private static void ditchedPlain() {
        Check.says("DITCHED: the PLAIN CELL (not 0) which, were it a DITCH, makes CHANCE by TURN most,");
        // Paces 4, 4, 1: to CELL 1 all come in 1, and by a ditch the last one in 3.
        due("the last CELL", Check.fieldOf("..;p16-5,p16-5,p11-5").ditched(), 1);
        due("a HILL is not PLAIN", Check.fieldOf("./;p16-5,p16-5,p11-5").ditched(), NONE);
        due("a DITCH is one", Check.fieldOf(".v;p16-5,p16-5,p11-5").ditched(), NONE);
        due("one CELL: not 0", Check.fieldOf(".;p16-5,p16-5,p11-5").ditched(), NONE);
        // Costs 1 and 4 in place of 2 part them: 9 and 10 in place of 6 and 6.
        RunningThree last = Check.fieldOf("...;p32-5,f23-5,l23-5");
        last.start(2);
        due("the last of three", last.ditched(), 2);
    }

    private static void ditchedMore() {
        Check.says("if that is more than without; the first; none.");
        due("just as much", Check.fieldOf("..;p11-5,p11-5").ditched(), NONE);
        due("either of two: the first", Check.fieldOf("...;p16-5,p16-5,p12-5").ditched(), 1);
        // More than without by either CELL, most by the first.
        String fighters = ";p15-5,f16-5,p16-5,s12-5";
        due("without", by("..." + fighters, 1), 52734);
        due("by the first", by(".v." + fighters, 1), 93750);
        due("by the last", by("..v" + fighters, 1), 70312);
        due("the most is by the first", ditchedBy("..." + fighters, 1), 1);
        // Less by the first, more by the next ones, most by the last.
        String others = ";p14-4,l16-3,f24-3,p13-3";
        due("without", by("......." + others, 3), 970);
        due("by the first", by(".v....." + others, 3), 681);
        due("by the next one", by("..v...." + others, 3), 1379);
        due("by the one ahead of the last", by(".....v." + others, 3), 1379);
        due("by the last", by("......v" + others, 3), 1788);
        due("the most is by the last", ditchedBy("......." + others, 3), 6);
    }

    private static int ditchedBy(String field, int start) {
        RunningThree x = Check.fieldOf(field);
        x.start(start);
        return x.ditched();
    }

    private static int by(String field, int start) {
        RunningThree x = Check.fieldOf(field);
        x.start(start);
        return x.best(1);
    }

    private static void ditched() {
        Check.says("DITCHED. NOT: likewise; NONE.");
        asked(At.RUNNING, "ditched");
        asked(At.FULL_MEN, "ditched");
        refusedWhenOver(true, "ditched");
    }

    // 21

    private static void aheadNotDown() {
        Check.says("AHEAD: whom to HURT 1 more beforehand (not DOWN), so that CHANCE by TURN is most, of like ones the least; how much.");
        RunningThree five = Check.fieldOf(".;p11-5,p11-6,p11-4,p11-6,p11-5");
        due("HURT 5: it would be DOWN", five.ahead(0), 4);
        due("the other one alone: 8 and 8", five.ahead(1), 250000);
        RunningThree like = Check.fieldOf(".;p11-5,p11-6,p11-5,p11-5,p11-5");
        due("of like ones the least that is not DOWN", like.ahead(0), 2);
        due("two are left", like.ahead(1), 187500);
        RunningThree one = Check.fieldOf(".;p11-5,p11-6,p11-6,p11-6,p11-5");
        due("the only one", one.ahead(0), 4);
        due("nobody is left", one.ahead(1), 1000000);
        RunningThree none = Check.fieldOf(".;p11-5,s91,s91");
        due("by none any CHANCE: the least", none.ahead(0), 1);
        due("by none any CHANCE", none.ahead(1), 0);
    }

    private static void ahead() {
        Check.says("AHEAD: whom (0), how much (1). BAD; NOT: likewise.");
        asked(At.RUNNING, "ahead", 0);
        asked(At.RUNNING, "ahead", 1);
        asked(At.FULL_MEN, "ahead", 0);
        refusedAnywhere("ahead", new long[] {-1}, new long[] {2}, new long[] {LEAST}, new long[] {MOST});
        refusedWhenOver(true, "ahead", 0);
        refusedWhenOver(true, "ahead", 1);
    }

    // 22

    /** A DRAW, worked out in longs. */
    private static int drawnFrom(int d) {
        return (int) ((d * 1103515245L + 12345L) % (1L << 31));
    }

    private static void fieldsRuns() {
        Check.says("FIELDS: n (1 .. 90) runs, each from now on, if he TURNS in MOMENT T, by DRAWS: how many he wins (THE DRAW "
            + "goes on; nothing else is changed).");
        // One DRAW a run: 8 of 16.
        for (int n : new int[] {1, 2, 89, 90}) {
            RunningThree x = Check.fieldOf(".;p11-5,p11-5");
            int d = 1;
            int wins = 0;
            for (int k = 0; k < n; k++) {
                d = drawnFrom(d);
                wins += d / 65536 % 16 < 8 ? 1 : 0;
            }
            due("of " + n, x.fields(0, n), wins);
            due("THE DRAW goes on", x.seed(1), d);
            due("nothing else is changed", x.of(0, 3), 5);
            due("nothing else is changed", x.of(1, 3), 5);
            due("nothing else is changed", x.count(2), 0);
            due("nothing else is changed", x.count(3), 0);
            due("nothing else is changed", x.count(5), 0);
        }
        // By T 0 both are there: 6 of 16, then 8; by T 1 he meets them singly.
        for (int t = 0; t <= 1; t++) {
            RunningThree x = Check.fieldOf(STRUNG_OUT);
            int d = 1;
            int wins = 0;
            for (int k = 0; k < 90; k++) {
                d = drawnFrom(d);
                if (d / 65536 % 16 < (t == 0 ? 6 : 8)) {
                    d = drawnFrom(d);
                    wins += d / 65536 % 16 < 8 ? 1 : 0;
                }
            }
            due("by T " + t, x.fields(t, 90), wins);
            due("by T " + t + " THE DRAW goes on", x.seed(1), d);
        }
    }

    /** Each run played out by calls is won or lost as FIELDS tells, and THE DRAW comes to the same. */
    private static void fieldsPlayedOut() {
        Check.says("each from now on, if he TURNS in MOMENT T, by DRAWS: how many he wins (THE DRAW goes on;");
        // They come singly, with waits between, or to one who fights already; one was DOWN from the first; by START 3 one
        // catches him, another is there a MOMENT later; long waits.
        String[] grounds = {
            "..........;s96,p51-3,l51-4,l31-5", "..../..v....//...v....;p95,p43-2,s24-4,l66-3", "...;p92-1,p13-4,f11-5",
            "......;p73,p11-6,p22-3,l11-4,p55-5", "..............;p61,p33-1,p52-1", ".".repeat(30) + ";p96,l11-5,l11-4"};
        for (String ground : grounds) {
            for (int start : new int[] {0, 3}) {
                for (int now = 0; now <= 2; now++) {
                    for (int t : new int[] {0, 1, 2, 4, 400}) {
                        playedOut(ground, start, now, t);
                    }
                }
            }
        }
    }

    private static RunningThree inMoment(String field, int start, int now) {
        RunningThree x = Check.fieldOf(field);
        x.start(start);
        moments(x, now);
        return x;
    }

    private static void playedOut(String field, int start, int now, int t) {
        int first = 1 + 100 * now + t;
        int draw = first;
        int wins = 0;
        for (int k = 0; k < 20; k++) {
            RunningThree x = inMoment(field, start, now);
            x.seed(draw);
            for (int m = now; m < t && x.count(3) == 0; m++) {
                x.moment();
            }
            x.turn();
            for (int m = 0; m < 300 && x.count(7) == 0; m++) {
                x.moment();
            }
            wins += x.count(7) == 1 ? 1 : 0;
            draw = x.seed(0);
        }
        String told = " of " + field + " by " + start + ", " + now + ", " + t;
        RunningThree x = inMoment(field, start, now);
        x.seed(first);
        due("fields" + told, x.fields(t, 20), wins);
        due("THE DRAW" + told, x.seed(0), draw);
    }

    private static void fields() {
        Check.says("FIELDS: how many he wins. BAD; NOT.");
        long[][] right = {{0, 1}, {0, 90}, {400, 1}, {400, 90}};
        for (At at : new At[] {At.RUNNING, At.TURNED, At.FULL_MEN}) {
            for (long[] r : right) {
                int wins = Calls.call(at.made(), "fields", r);
                due("as many as there were, at most", wins >= 0 && wins <= r[1] ? 1 : 0, 1);
                butForTheDraw(at, wins, r);
            }
        }
        refusedAnywhere("fields", new long[] {-1, 1}, new long[] {401, 1}, new long[] {0, 0}, new long[] {0, 91},
            new long[] {400, -1}, new long[] {400, LEAST}, new long[] {400, MOST}, new long[] {LEAST, 90}, new long[] {MOST, 90});
        refusedWhenOver(false, "fields", 0, 1);
        refusedWhenOver(false, "fields", 400, 90);
    }

    /** THE DRAW goes on; put back, the object is as one on which nothing was asked. */
    private static void butForTheDraw(At at, int wins, long[] v) {
        for (int way = 0; way < State.WAYS.length; way++) {
            RunningThree x = at.made();
            RunningThree y = at.made();
            int draw = x.seed(5);
            x.seed(draw);
            due("fields", Calls.call(x, "fields", v), wins);
            due("THE DRAW goes on", x.seed(draw) == draw ? 1 : 0, 0);
            State.alike(at + ": fields", x, y, way);
        }
    }

    // 23, 24

    private static void image() {
        Check.says("All but SHEETS, THE TAPE is kept as an IMAGE: 1.");
        for (At at : At.values()) {
            State.answers(at, 1, "image");
        }
        for (At at : new At[] {At.NEW, At.ONE_MAN, At.RUNNING, At.TURNED, At.WON, At.DOWN_TURNED}) {
            kept(at);
        }
        RunningThree x = At.RUNNING.made();
        x.image();
        x.drop(0);
        x.sheet(2, 3, 9);
        x.type('.');
        x.restore();
        due("SHEETS as they are now", x.drop(0), NULL);
        due("SHEETS as they are now", x.drop(2), 9);
        due("THE TAPE as it is now", x.type('.'), 15);
    }

    /** Whatever is done behind the IMAGE, told and undone it is as it was, and more than once. */
    private static void kept(At at) {
        for (int way = 0; way < 2; way++) {
            for (int times = 1; times <= 2; times++) {
                RunningThree x = at.made();
                due("image", x.image(), 1);
                for (int k = 0; k < times; k++) {
                    muchIsDone(x);
                    due("restore", x.restore(), 1);
                }
                State.alike(at + ": all that was done behind image()", x, at.made(), way);
            }
        }
    }

    private static void muchIsDone(RunningThree x) {
        moments(x, 3);
        x.undo();
        x.turn();
        moments(x, 9);
        x.seed(4);
        Check.read(x, "!");
        Check.read(x, "...;f22-1,s33-2,l44-3");
        x.start(7);
        x.fighter(1, 2, 3);
        x.hurt(0, 4);
        x.moment();
    }

    private static void restore() {
        Check.says("All is as it was then: 1. NONE: there is none.");
        State.unchanged(At.NEW, NONE, "restore");
        State.unchanged(At.NO_IMAGE, NONE, "restore");
        for (At at : new At[] {At.ONE_MAN, At.RUNNING, At.TURNED, At.WON, At.DOWN, At.WON_TURNED, At.DOWN_TURNED}) {
            State.answers(at, 1, "restore");
        }
        RunningThree x = At.TURNED.made();
        x.restore();
        due("MOMENT 0", x.count(2), 0);
        due("he RUNS", x.count(3), 0);
        due("nothing to be UNDONE", x.count(5), 0);
        due("HURT", x.of(2, 3), 0);
        due("THE DRAW", x.seed(1), 77);
        due("START", x.start(0), 2);
        due("again", x.restore(), 1);
        due("again: START", x.start(0), 2);
        due("again: THE DRAW", x.seed(1), 77);
    }
}
