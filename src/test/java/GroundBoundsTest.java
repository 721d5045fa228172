/** The bounds that the document names of THE GROUND and the FIGHTERS, sentence by sentence (promises 1 to 11). */
public final class GroundBoundsTest {
    private static final int BAD = -1, NOT = -2, FULL = -3, NONE = -4, NULL = -11;
    private static final int LEAST = Integer.MIN_VALUE, MOST = Integer.MAX_VALUE;
    /** Half of HURT, cut. */
    private static final int[] HALF = {0, 0, 1, 1, 2, 2, 3};

    private GroundBoundsTest() {
    }

    private static void due(String call, long got, long want) {
        Check.due(call, got, want);
    }

    public static void main(String[] args) {
        newObject();
        cells();
        costs();
        numbersOfFighters();
        numbersOfAFighter();
        start();
        forceOfPlain();
        forceOfShielded();
        pointsOfPlain();
        pointsOfShielded();
        pointsOfLame();
        pointsOfFeigning();
        fighter();
        of();
        hurt();
        startCall();
        sortAndCost();
        points();
        count();
        Check.end("GroundBoundsTest");
    }

    // 1

    private static void newObject() {
        Check.says("`RunningThree()`: One cell, nobody.");
        State.answers(At.NEW, 1, "count", 0);
        State.answers(At.NEW, 0, "count", 1);
        State.answers(At.NEW, 0, "sort", 0);
        State.answers(At.NEW, BAD, "sort", 1);
        State.answers(At.NEW, 0, "cost", 0);
        State.answers(At.NEW, BAD, "cost", 1);
        State.answers(At.NEW, BAD, "of", 0, 0);
        State.answers(At.NEW, BAD, "points", 0, 0);
        State.unchanged(At.NEW, BAD, "hurt", 0, 0);
        Check.says("MOMENT 0 is at first, he RUNS.");
        State.answers(At.NEW, 0, "count", 2);
        State.answers(At.NEW, 0, "count", 3);
        State.answers(At.NEW, NONE, "count", 4);
        State.answers(At.NEW, 0, "count", 5);
        State.answers(At.NEW, 0, "count", 6);
        State.answers(At.NEW, 3, "count", 7);
        Check.says("(0 .. 20; 0 at first)");
        State.answers(At.NEW, 0, "start", 7);
        Check.says("a number of 31 bits (1 at first)");
        State.answers(At.NEW, 1, "seed", 7);
        Check.says("sheets 0 .. 3: nothing (at first)");
        for (int s = 0; s < 4; s++) {
            State.unchanged(At.NEW, NULL, "drop", s);
        }
        Check.says("THE TAPE, which is empty then");
        State.answers(At.NEW, -20, "field");
        State.answers(At.NEW, 1, "type", '.');
    }

    // ==== 1

    private static void cells() {
        Check.says("THE GROUND has CELLS 0 .. (1 to 40; one, plain, at first), each of a sort: 0 PLAIN, 1 HILL, 2 DITCH.");
        for (int n = 1; n <= 40; n++) {
            RunningThree x = Check.fieldOf("." + "v".repeat(n - 1));
            due("as many CELLS as signs", x.count(0), n);
            due("the last of " + n, x.sort(n - 1), n == 1 ? 0 : 2);
            due("behind the last of " + n, x.sort(n), BAD);
            due("cost behind the last of " + n, x.cost(n), BAD);
        }
        RunningThree x = Check.fieldOf("./v");
        due("41 CELLS", Check.read(x, ".".repeat(41)), -60);
        due("none", Check.read(x, ""), -20);
        due("none of them came", x.count(0), 3);
        for (int sort = 0; sort < 3; sort++) {
            due("each sort", x.sort(sort), sort);
        }
        due("ahead of the first", x.sort(-1), BAD);
        due("fewer than there were: as many as are told", Check.read(x, ".v"), 0);
        due("a CELL that was", x.sort(2), BAD);
    }

    private static void costs() {
        Check.says("COST of a CELL: of CELLS 1 to it 1 for each PLAIN one, 2 a HILL, 3 a DITCH, added (of CELL 0 none).");
        String signs = "./v";
        for (int sort = 0; sort < 3; sort++) {
            RunningThree x = Check.fieldOf("." + signs.substring(sort, sort + 1).repeat(39));
            due("CELL 0", x.cost(0), 0);
            due("CELL 1", x.cost(1), sort + 1);
            due("CELL 39", x.cost(39), 39 * (sort + 1));
        }
        RunningThree mixed = Check.fieldOf("./.v");
        int[] costs = {0, 2, 3, 6};
        for (int c = 0; c < costs.length; c++) {
            due("mixed, CELL " + c, mixed.cost(c), costs[c]);
        }
    }

    private static void numbersOfFighters() {
        Check.says("FIGHTERS 0 .. 4, as they come, are of a KIND");
        RunningThree x = new RunningThree();
        for (int n = 0; n < 5; n++) {
            due("not yet there", x.of(n, 0), BAD);
            due("not yet there", x.points(n, 1), BAD);
            due("not yet there", x.hurt(n, 1), BAD);
            due("as they come", x.fighter(n % 4, 1 + n, 1 + n), n);
            due("as they came: KIND", x.of(n, 0), n % 4);
            due("as they came: STRENGTH", x.of(n, 1), 1 + n);
            due("as they came: PACE", x.of(n, 2), 1 + n);
        }
        due("a sixth", x.fighter(0, 1, 1), FULL);
        due("no sixth", x.of(5, 0), BAD);
        due("ahead of the first", x.of(-1, 0), BAD);
        Check.says("FIGHTER 0 is THE RUNNER, all others PURSUE him.");
        RunningThree y = Check.fieldOf("...........;p12,p11,p11,p11,p11");
        y.turn();
        for (int f = 0; f < 5; f++) {
            due("who COMES to him", y.of(f, 6), f == 0 ? NONE : 0);
        }
    }

    private static void numbersOfAFighter() {
        Check.says("have a STRENGTH (1 .. 9), a PACE (1 .. 6), are HURT (0 .. 6; 6: DOWN).");
        for (int v = -1; v <= 11; v++) {
            boolean kind = v >= 0 && v <= 3;
            boolean strength = v >= 1 && v <= 9;
            boolean pace = v >= 1 && v <= 6;
            due("KIND " + v, new RunningThree().fighter(v, 1, 1), kind ? 0 : BAD);
            due("STRENGTH " + v, new RunningThree().fighter(0, v, 1), strength ? 0 : BAD);
            due("PACE " + v, new RunningThree().fighter(0, 1, v), pace ? 0 : BAD);
        }
        RunningThree x = Check.fieldOf(".;p11,p11");
        int was = 0;
        for (int v = 0; v <= 6; v++) {
            due("HURT " + v, x.hurt(1, v), was);
            due("HURT " + v + ": how much", x.of(1, 3), v);
            due("HURT " + v + ": DOWN", x.count(6), v == 6 ? 2 : 0);
            was = v;
        }
        due("HURT 7", x.hurt(1, 7), BAD);
        due("HURT -1", x.hurt(1, -1), BAD);
        due("HURT as it was", x.of(1, 3), 6);
        due("a new one is HURT 0", x.fighter(0, 9, 6), 2);
        due("a new one is HURT 0", x.of(2, 3), 0);
    }

    private static void start() {
        Check.says("START is how many MOMENTS they set out behind him (0 .. 20; 0 at first).");
        for (int v = -1; v <= 21; v++) {
            boolean told = v >= 0 && v <= 20;
            RunningThree x = Check.fieldOf("." + "v".repeat(39) + ";p11,p12");
            due("START " + v, x.start(v), told ? 0 : BAD);
            due("START " + v + ": then", x.start(0), told ? v : 0);
        }
        // On plain CELLS he makes 1 a MOMENT, the other 2, from START on.
        for (int v : new int[] {1, 2, 20}) {
            RunningThree x = Check.fieldOf(".".repeat(40) + ";p11,p12");
            x.start(v);
            for (int m = 0; m < v; m++) {
                due("START " + v + ": in MOMENT " + m, x.of(1, 5), 0);
                x.moment();
            }
            due("START " + v + ": not yet", x.of(1, 5), 0);
            due("START " + v + ": he", x.of(0, 5), v);
            x.moment();
            due("START " + v + ": set out", x.of(1, 5), 2);
        }
    }

    private static void forceOfPlain() {
        Check.says("FORCE: STRENGTH less half of HURT (cut), 1 at least;");
        for (int strength = 1; strength <= 9; strength++) {
            RunningThree x = new RunningThree();
            for (int kind : new int[] {0, 2, 3}) {
                int f = x.fighter(kind, strength, 1);
                for (int h = 0; h <= 6; h++) {
                    x.hurt(f, h);
                    int force = strength - HALF[h];
                    due("FORCE of " + strength + ", HURT " + h, x.of(f, 4), force < 1 ? 1 : force);
                }
            }
        }
    }

    private static void forceOfShielded() {
        Check.says("Below it 1 SHIELDED: FORCE 2 more;");
        for (int strength = 1; strength <= 9; strength++) {
            RunningThree x = new RunningThree();
            x.fighter(1, strength, 1);
            for (int h = 0; h <= 6; h++) {
                x.hurt(0, h);
                int force = strength - HALF[h];
                due("FORCE of " + strength + ", SHIELDED, HURT " + h, x.of(0, 4), (force < 1 ? 1 : force) + 2);
            }
        }
    }

    /** POINTS of each PACE and HURT by MOMENTS about the bounds; a stride is what a PLAIN one makes in one. */
    private static void pointsBy(int kind, int pace, int[] strides, int[][] points) {
        int[] t = {0, 1, 2, 5, 6, 7, 8, 399, 400};
        RunningThree x = new RunningThree();
        x.fighter(kind, 1, pace);
        for (int h = 0; h <= 6; h++) {
            x.hurt(0, h);
            for (int k = 0; k < t.length; k++) {
                String told = "POINTS of KIND " + kind + ", PACE " + pace + ", HURT " + h + " in " + t[k];
                due(told, x.points(0, t[k]), points[strides[h]][k]);
            }
        }
    }

    /** By strides 1 to 6; the MOMENTS are those of pointsBy. */
    private static final int[][] OF_PLAIN = {{},
        {0, 1, 2, 5, 6, 7, 8, 399, 400}, {0, 2, 4, 10, 12, 14, 16, 798, 800}, {0, 3, 6, 15, 18, 21, 24, 1197, 1200},
        {0, 4, 8, 20, 24, 28, 32, 1596, 1600}, {0, 5, 10, 25, 30, 35, 40, 1995, 2000},
        {0, 6, 12, 30, 36, 42, 48, 2394, 2400}};
    private static final int[][] OF_LAME = {{},
        {0, 0, 1, 2, 3, 3, 4, 199, 200}, {0, 1, 2, 5, 6, 7, 8, 399, 400}, {0, 1, 3, 7, 9, 10, 12, 598, 600},
        {0, 2, 4, 10, 12, 14, 16, 798, 800}, {0, 2, 5, 12, 15, 17, 20, 997, 1000},
        {0, 3, 6, 15, 18, 21, 24, 1197, 1200}};
    private static final int[][] OF_FEIGNING = {{},
        {0, 0, 1, 2, 3, 4, 5, 396, 397}, {0, 1, 2, 5, 6, 8, 10, 792, 794}, {0, 1, 3, 7, 9, 12, 15, 1188, 1191},
        {0, 2, 4, 10, 12, 16, 20, 1584, 1588}, {0, 2, 5, 12, 15, 20, 25, 1980, 1985},
        {0, 3, 6, 15, 18, 24, 30, 2376, 2382}};
    /** PACE less half of HURT, cut, 1 at least. */
    private static final int[][] STRIDES = {{},
        {1, 1, 1, 1, 1, 1, 1}, {2, 2, 1, 1, 1, 1, 1}, {3, 3, 2, 2, 1, 1, 1},
        {4, 4, 3, 3, 2, 2, 1}, {5, 5, 4, 4, 3, 3, 2}, {6, 6, 5, 5, 4, 4, 3}};

    private static void pointsOfPlain() {
        Check.says("POINTS: t times (PACE less half of HURT, cut, 1 at least).");
        for (int pace = 1; pace <= 6; pace++) {
            pointsBy(0, pace, STRIDES[pace], OF_PLAIN);
        }
    }

    private static void pointsOfShielded() {
        Check.says("POINTS as if PACE were 1 less (1 at least).");
        for (int pace = 1; pace <= 6; pace++) {
            pointsBy(1, pace, STRIDES[pace == 1 ? 1 : pace - 1], OF_PLAIN);
        }
    }

    private static void pointsOfLame() {
        Check.says("2 LAME (below PLAIN): POINTS half of a PLAIN one's (cut).");
        for (int pace = 1; pace <= 6; pace++) {
            pointsBy(2, pace, STRIDES[pace], OF_LAME);
        }
    }

    private static void pointsOfFeigning() {
        Check.says("POINTS as LAME to MOMENT 6; from then on as many more as a PLAIN one has in MOMENTS beyond 6.");
        for (int pace = 1; pace <= 6; pace++) {
            pointsBy(3, pace, STRIDES[pace], OF_FEIGNING);
        }
    }

    // 2

    private static void fighter() {
        Check.says("A FIGHTER: its number. BAD; NOT: he has TURNED; FULL: 5.");
        State.answers(At.RUNNING, 4, "fighter", 0, 1, 1);
        State.answers(At.RUNNING, 4, "fighter", 3, 9, 6);
        State.answers(At.WON, 4, "fighter", 3, 9, 6);
        State.answers(At.DOWN, 4, "fighter", 3, 9, 6);
        State.answers(At.NEW, 0, "fighter", 3, 9, 6);
        long[][] wrong = {
            {-1, 1, 1}, {4, 1, 1}, {0, 0, 1}, {0, 10, 1}, {0, 1, 0}, {0, 1, 7}, {LEAST, 9, 6}, {MOST, 9, 6},
            {3, LEAST, 6}, {3, MOST, 6}, {3, 9, LEAST}, {3, 9, MOST}, {-1, 0, 0}};
        for (At at : new At[] {At.RUNNING, At.TURNED, At.FULL_MEN, At.FULL_TURNED}) {
            for (long[] w : wrong) {
                State.unchanged(at, BAD, "fighter", w);
            }
        }
        State.unchanged(At.TURNED, NOT, "fighter", 0, 1, 1);
        State.unchanged(At.FULL_TURNED, NOT, "fighter", 3, 9, 6);
        State.unchanged(At.WON_TURNED, NOT, "fighter", 0, 1, 1);
        State.unchanged(At.DOWN_TURNED, NOT, "fighter", 0, 1, 1);
        State.unchanged(At.FULL_MEN, FULL, "fighter", 0, 1, 1);
        State.unchanged(At.FULL_MEN, FULL, "fighter", 3, 9, 6);
        RunningThree x = At.RUNNING.made();
        x.fighter(0, 1, 1);
        due("the fifth may come", x.count(1), 5);
        due("no more", x.fighter(0, 1, 1), FULL);
        Check.says("a new FIGHTER leave nothing to be UNDONE.");
        due("nothing to be UNDONE", x.count(5), 0);
        due("nothing to be UNDONE", x.undo(), NONE);
        due("the MOMENT stays", x.count(2), 2);
        due("refused: still to be UNDONE", At.FULL_MEN.made().count(5), 1);
    }

    // 3

    private static void of() {
        Check.says("Of a FIGHTER: 0 KIND, 1 STRENGTH, 2 PACE, 3 HURT, 4 FORCE, 5 the CELL where it is now");
        int[][] all = {{0, 5, 3, 1, 5, 3, NONE}, {1, 4, 2, 3, 5, 0, NONE}, {2, 3, 6, 1, 3, 0, NONE}, {3, 2, 4, 6, 1, 0, NONE}};
        for (int f = -1; f <= 4; f++) {
            for (int what = -1; what <= 7; what++) {
                boolean told = f >= 0 && f < 4 && what >= 0 && what < 7;
                State.unchanged(At.RUNNING, told ? all[f][what] : BAD, "of", f, what);
            }
        }
        for (long end : new long[] {LEAST, MOST, 5}) {
            State.answers(At.RUNNING, BAD, "of", end, 0);
            State.answers(At.RUNNING, BAD, "of", 0, end == 5 ? 8 : end);
            State.answers(At.FULL_MEN, BAD, "of", end, 0);
        }
        State.answers(At.FULL_MEN, 1, "of", 4, 1);
        Check.says("(when he has TURNED: he there, others no farther than there)");
        State.answers(At.TURNED, 3, "of", 0, 5);
        State.answers(At.TURNED, 1, "of", 1, 5);
        State.answers(At.TURNED, 3, "of", 2, 5);
        State.answers(At.TURNED, 0, "of", 3, 5);
        Check.says("6 the MOMENT in which it COMES (NONE: he RUNS; it is the RUNNER, DOWN). BAD.");
        int[] coming = {NONE, 8, 4, NONE};
        for (int f = 0; f < 4; f++) {
            State.answers(At.RUNNING, NONE, "of", f, 6);
            State.answers(At.TURNED, coming[f], "of", f, 6);
        }
        State.answers(At.WON_TURNED, NONE, "of", 1, 6);
        State.answers(At.DOWN_TURNED, 0, "of", 1, 6);
        State.answers(At.DOWN_TURNED, NONE, "of", 0, 6);
    }

    // 4

    private static void hurt() {
        Check.says("HURT of a FIGHTER becomes v (0 .. 6): what it was. BAD; NOT: he has TURNED.");
        int[] was = {1, 3, 1, 6};
        for (int f = 0; f < 4; f++) {
            for (int v = 0; v <= 6; v += 6) {
                RunningThree x = At.RUNNING.made();
                due("what it was", x.hurt(f, v), was[f]);
                for (int g = 0; g < 4; g++) {
                    due("of that one alone", x.of(g, 3), g == f ? v : was[g]);
                }
                due("still to be UNDONE", x.count(5), 2);
            }
        }
        long[][] wrong = {{-1, 0}, {4, 0}, {0, -1}, {0, 7}, {3, LEAST}, {3, MOST}, {LEAST, 6}, {MOST, 6}, {-1, 7}};
        for (At at : new At[] {At.RUNNING, At.TURNED}) {
            for (long[] w : wrong) {
                State.unchanged(at, BAD, "hurt", w);
            }
        }
        State.unchanged(At.FULL_MEN, BAD, "hurt", 5, 0);
        State.answers(At.FULL_MEN, 0, "hurt", 4, 6);
        for (At at : new At[] {At.TURNED, At.WON_TURNED, At.DOWN_TURNED}) {
            State.unchanged(at, NOT, "hurt", 0, 0);
            State.unchanged(at, NOT, "hurt", 1, 6);
        }
        State.answers(At.WON, 6, "hurt", 1, 0);
        State.answers(At.DOWN, 6, "hurt", 0, 0);
    }

    // 5

    private static void startCall() {
        Check.says("START: what it was. BAD; NOT: it is not MOMENT 0.");
        State.answers(At.ONE_MAN, 2, "start", 0);
        State.answers(At.ONE_MAN, 2, "start", 20);
        State.answers(At.NO_IMAGE, 0, "start", 20);
        for (At at : new At[] {At.NEW, At.ONE_MAN, At.RUNNING, At.TURNED}) {
            for (long w : new long[] {-1, 21, LEAST, MOST}) {
                State.unchanged(at, BAD, "start", w);
            }
        }
        for (At at : new At[] {At.RUNNING, At.TURNED, At.FULL_MEN, At.WON, At.DOWN, At.WON_TURNED, At.DOWN_TURNED}) {
            State.unchanged(at, NOT, "start", 0);
            State.unchanged(at, NOT, "start", 20);
        }
        RunningThree x = At.FULL_MEN.made();
        x.undo();
        due("MOMENT 0 again", x.start(9), 2);
    }

    // 6, 7

    private static void sortAndCost() {
        int[] sorts = {0, 0, 1, 2, 0, 0, 0, 0, 0, 0};
        int[] costs = {0, 1, 3, 6, 7, 8, 9, 10, 11, 12};
        for (String call : new String[] {"sort", "cost"}) {
            Check.says(call.equals("sort") ? "The sort of a CELL. BAD." : "COST of a CELL. BAD.");
            for (int c = 0; c < 10; c++) {
                State.answers(At.RUNNING, call.equals("sort") ? sorts[c] : costs[c], call, c);
            }
            for (long w : new long[] {-1, 10, 39, 40, LEAST, MOST}) {
                State.unchanged(At.RUNNING, BAD, call, w);
            }
            RunningThree most = Check.fieldOf("." + "/".repeat(39));
            due(call + "(39)", Calls.call(most, call, 39), call.equals("sort") ? 1 : 78);
            due(call + "(40)", Calls.call(most, call, 40), BAD);
            due(call + "(-1)", Calls.call(most, call, -1), BAD);
        }
    }

    // 8

    private static void points() {
        Check.says("POINTS of a FIGHTER in t MOMENTS (0 .. 400), as HURT as it is. BAD.");
        State.answers(At.RUNNING, 0, "points", 0, 0);
        State.answers(At.RUNNING, 1200, "points", 0, 400);
        State.answers(At.RUNNING, 1197, "points", 0, 399);
        // DOWN, PACE 4: 1 a MOMENT, FEIGNING.
        State.answers(At.RUNNING, 397, "points", 3, 400);
        State.answers(At.TURNED, 400, "points", 1, 400);
        long[][] wrong = {{0, -1}, {0, 401}, {-1, 0}, {4, 0}, {3, LEAST}, {3, MOST}, {LEAST, 0}, {MOST, 400}};
        for (long[] w : wrong) {
            State.unchanged(At.RUNNING, BAD, "points", w);
            State.unchanged(At.TURNED, BAD, "points", w);
        }
        State.answers(At.FULL_MEN, 400, "points", 4, 400);
        State.answers(At.FULL_MEN, BAD, "points", 5, 400);
        RunningThree x = At.RUNNING.made();
        x.hurt(0, 2);
        due("as HURT as it is", x.points(0, 400), 800);
    }

    // 11

    private static void count() {
        Check.says("0 CELLS, 1 FIGHTERS, 2 THE MOMENT, 3 whether he TURNED (1, 0), 4 the CELL where he did (NONE), "
            + "5 MOMENTS that may be UNDONE, 6 those DOWN (a set)");
        told(At.NEW, 1, 0, 0, 0, NONE, 0, 0, 3);
        told(At.ONE_MAN, 10, 1, 0, 0, NONE, 0, 0, 3);
        told(At.RUNNING, 10, 4, 2, 0, NONE, 2, 8, 0);
        told(At.TURNED, 10, 4, 4, 1, 3, 4, 8, 0);
        told(At.FULL_MEN, 10, 5, 1, 0, NONE, 1, 8, 0);
        told(At.WON, 10, 4, 2, 0, NONE, 2, 14, 1);
        told(At.DOWN, 10, 4, 2, 0, NONE, 2, 9, 2);
        for (At at : At.values()) {
            for (long w : new long[] {-1, 8, LEAST, MOST}) {
                State.answers(at, BAD, "count", w);
            }
        }
        State.unchanged(At.RUNNING, BAD, "count", -1);
        State.unchanged(At.RUNNING, BAD, "count", 8);
        Check.says("6 those DOWN (a set)");
        due("all five", Check.fieldOf(".;p11-6,p11-6,p11-6,p11-6,p11-6").count(6), 31);
        due("the last", Check.fieldOf(".;p11-5,p11-5,p11-5,p11-5,p11-6").count(6), 16);
        due("the first", Check.fieldOf(".;p11-6").count(6), 1);
        Check.says("7 0 it goes on, 1 he has won, 2 he is DOWN, 3 nobody PURSUES, or there is no RUNNER. BAD.");
        due("one of two is up", Check.fieldOf(".;p11-5,p11-6,p11-5").count(7), 0);
        due("none of two is up", Check.fieldOf(".;p11-5,p11-6,p11-6").count(7), 1);
        due("he is not", Check.fieldOf(".;p11-6,p11-6,p11-5").count(7), 2);
        due("nobody PURSUES", Check.fieldOf(".;p11-5").count(7), 3);
        due("there is no RUNNER", Check.fieldOf(".").count(7), 3);
        State.answers(At.WON_TURNED, 1, "count", 7);
        State.answers(At.DOWN_TURNED, 2, "count", 7);
    }

    private static void told(At at, int... counts) {
        for (int what = 0; what < counts.length; what++) {
            State.unchanged(at, counts[what], "count", what);
        }
    }
}
