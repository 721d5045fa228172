/** Each promise of the document by itself; the answers that are due were worked out by hand. */
public final class PromisesTest {
    private static final int BAD = -1, NOT = -2, FULL = -3, NONE = -4, NULL = -11, CAST = -12, INDEX = -13, SIZE = -14;
    private static final int LEAST = Integer.MIN_VALUE, MOST = Integer.MAX_VALUE;

    private PromisesTest() {
    }

    private static void due(String call, long got, long want) {
        Check.due(call, got, want);
    }

    public static void main(String[] args) {
        newObject();
        fighter();
        fighterRefused();
        ofNumbers();
        ofPlaces();
        hurt();
        start();
        sortAndCost();
        points();
        type();
        field();
        fieldFaults();
        fieldReplaces();
        count();
        moment();
        caught();
        fights();
        manyThere();
        turn();
        undo();
        undoKnowsEight();
        seed();
        chance();
        chanceByT();
        best();
        late();
        together();
        ditched();
        ahead();
        fields();
        imageAndRestore();
        strides();
        far();
        film();
        sheet();
        drop();
        item();
        copy();
        Check.end("PromisesTest");
    }

    // 1
    private static void newObject() {
        RunningThree x = new RunningThree();
        int[] counts = {1, 0, 0, 0, NONE, 0, 0, 3};
        for (int k = 0; k < counts.length; k++) {
            due("new: count(" + k + ")", x.count(k), counts[k]);
        }
        due("new: sort(0)", x.sort(0), 0);
        due("new: cost(0)", x.cost(0), 0);
        due("new: of(0, 0)", x.of(0, 0), BAD);
        due("new: start(0)", x.start(0), 0);
        due("new: seed(1)", x.seed(1), 1);
        due("new: restore()", x.restore(), NONE);
        due("new: undo()", x.undo(), NONE);
        for (int s = 0; s < 4; s++) {
            due("new: drop(" + s + ")", x.drop(s), NULL);
        }
        due("new: type('.')", x.type('.'), 1);
    }

    // 2
    private static void fighter() {
        RunningThree x = new RunningThree();
        due("fighter", x.fighter(0, 1, 1), 0);
        due("fighter", x.fighter(1, 9, 6), 1);
        due("fighter", x.fighter(2, 5, 3), 2);
        due("fighter", x.fighter(3, 5, 3), 3);
        due("fighter", x.fighter(0, 5, 3), 4);
        due("fighter: a sixth", x.fighter(0, 5, 3), FULL);
        due("fighter: a wrong sixth", x.fighter(4, 5, 3), BAD);
        due("fighter: five", x.count(1), 5);
        due("fighter: unhurt", x.of(1, 3), 0);
        RunningThree y = Check.fieldOf("...........;p11,p11");
        y.start(9);
        y.moment();
        due("fighter: to be undone", y.count(5), 1);
        due("fighter: refused", y.fighter(0, 0, 1), BAD);
        due("fighter: refused, still to be undone", y.count(5), 1);
        due("fighter: later", y.fighter(2, 2, 2), 2);
        due("fighter: nothing to be undone", y.count(5), 0);
        due("fighter: nothing to be undone", y.undo(), NONE);
        due("fighter: the moment stays", y.count(2), 1);
    }

    private static void fighterRefused() {
        RunningThree x = Check.fieldOf(".;p11,p11,p11,p11,p11");
        x.turn();
        due("fighter: turned, and five", x.fighter(0, 1, 1), NOT);
        due("fighter: turned, and wrong", x.fighter(-1, 1, 1), BAD);
        RunningThree y = new RunningThree();
        int[][] wrong = {{-1, 1, 1}, {4, 1, 1}, {0, 0, 1}, {0, 10, 1}, {0, 1, 0}, {0, 1, 7}, {LEAST, 1, 1}, {0, MOST, 1}, {0, 1, MOST}};
        for (int[] w : wrong) {
            due("fighter: wrong", y.fighter(w[0], w[1], w[2]), BAD);
        }
        due("fighter: none of them came", y.count(1), 0);
    }

    // 3
    private static void ofNumbers() {
        RunningThree x = Check.fieldOf(".;p53-3,s24-5,l16-6,f91");
        int[][] all = {{0, 5, 3, 3, 4}, {1, 2, 4, 5, 3}, {2, 1, 6, 6, 1}, {3, 9, 1, 0, 9}};
        for (int f = 0; f < all.length; f++) {
            for (int what = 0; what < 5; what++) {
                due("of(" + f + ", " + what + ")", x.of(f, what), all[f][what]);
            }
        }
        due("of: force of a weak shielded one", Check.fieldOf(".;s11-6").of(0, 4), 3);
        due("of: no such fighter", x.of(4, 0), BAD);
        due("of: no such fighter", x.of(-1, 0), BAD);
        due("of: no such fighter", x.of(MOST, 0), BAD);
        due("of: what", x.of(0, -1), BAD);
        due("of: what", x.of(0, 7), BAD);
    }

    private static void ofPlaces() {
        // Costs 0 1 3 6 7 8 9 10.
        RunningThree x = Check.fieldOf("../v....;p13,p12,p11,p16-6");
        x.start(1);
        x.moment();
        int[] first = {2, 0, 0, 0};
        same(x, 5, first);
        x.moment();
        same(x, 5, new int[] {3, 1, 1, 0});
        same(x, 6, new int[] {NONE, NONE, NONE, NONE});
        due("of: turned", x.turn(), 3);
        same(x, 6, new int[] {NONE, 4, 7, NONE});
        x.moment();
        due("of: on its way, by MOMENTS since START", x.of(2, 5), 1);
        x.moment();
        due("of: has come, no farther", x.of(1, 5), 3);
        due("of: he stays there", x.of(0, 5), 3);
        due("of: not yet", x.of(2, 5), 2);
        RunningThree y = Check.fieldOf("...;p93,p16,p16-5");
        y.moment();
        due("of: caught in the last cell", y.count(4), 2);
        y.seed(0);
        y.moment();
        due("of: no farther than there", y.of(1, 5), 2);
        due("of: of a downed one", Check.fieldOf("...;p93-6,p16").of(0, 5), 0);
        RunningThree z = Check.fieldOf("..........;p91,p16");
        z.start(1);
        z.moment();
        z.turn();
        z.moment();
        z.moment();
        due("of: no farther, though the ground goes on", z.of(1, 5), 1);
        ofFallen();
        ofFallenAndSlow();
        ofWounded();
    }

    /** One that falls where he stands is there; DOWN while he RUNS, or when he TURNED, it is in CELL 0. */
    private static void ofFallen() {
        RunningThree x = Check.fieldOf("...;p92,p11-5,p16-6,p11");
        x.hurt(1, 6);
        x.moment();
        x.undo();
        due("of: DOWN while he runs", x.of(1, 5), 0);
        x.hurt(1, 5);
        x.moment();
        due("of: caught", x.count(4), 2);
        same(x, 6, new int[] {NONE, 2, NONE, 2});
        int before = x.of(1, 5);
        due("of: on its way", before, 1);
        int hurt = momentsUntilHurt(x, 1);
        due("of: DOWN by the fight", x.count(6), 6);
        same(x, 5, new int[] {2, 2, 0, 2});
        due("of: comes, DOWN", x.of(1, 6), NONE);
        x.image();
        x.undo();
        due("of: not yet fallen", x.count(6), 4);
        due("of: undone", x.of(1, 6), 2);
        for (int k = 1; k < hurt; k++) {
            x.undo();
        }
        due("of: on its way again", x.of(1, 5), before);
        x.undo();
        x.hurt(1, 6);
        x.moment();
        x.moment();
        x.moment();
        same(x, 5, new int[] {2, 0, 0, 2});
        x.restore();
        same(x, 5, new int[] {2, 2, 0, 2});
    }

    /** A wound that makes fewer POINTS does not take the fallen one back from where it has come. */
    private static void ofFallenAndSlow() {
        // In 5 MOMENTS it has half of 5 * 4 POINTS, and half of 5 * 3 (cut) from its sixth wound on.
        RunningThree x = Check.fieldOf("...........;p95,l16-5");
        x.moment();
        x.moment();
        due("of: caught", x.count(4), 10);
        due("of: comes", x.of(1, 6), 5);
        due("of: moments until it falls", momentsUntilHurt(x, 1), 3);
        due("of: fallen", x.count(6), 2);
        due("of: fewer POINTS than the CELL costs", x.points(1, 5), 7);
        due("of: there all the same", x.of(1, 5), 10);
        due("of: he himself", x.of(0, 5), 10);
        x.undo();
        due("of: on its way again", x.of(1, 5), x.points(1, 4));
    }

    /** Wounds in the fight take nobody back, and leave those on their way where their POINTS bring them. */
    private static void ofWounded() {
        RunningThree x = Check.fieldOf("......;p93,p12,l11");
        x.moment();
        x.moment();
        same(x, 5, new int[] {5, 4, 1});
        same(x, 6, new int[] {NONE, 3, 10});
        due("of: first wound", x.moment(), 1);
        same(x, 5, new int[] {5, 5, 1});
        due("of: second wound", x.moment(), 1);
        due("of: fewer POINTS than the CELL costs", x.points(1, 4), 4);
        same(x, 5, new int[] {5, 5, 2});
        same(x, 6, new int[] {NONE, 3, 10});
        x.image();
        x.undo();
        x.undo();
        same(x, 5, new int[] {5, 4, 1});
        x.restore();
        same(x, 5, new int[] {5, 5, 2});
    }

    private static int momentsUntilHurt(RunningThree x, int who) {
        int moments = 1;
        while (moments < 8 && x.moment() != who) {
            moments++;
        }
        return moments;
    }

    private static void same(RunningThree x, int what, int[] due) {
        for (int f = 0; f < due.length; f++) {
            due("of(" + f + ", " + what + ")", x.of(f, what), due[f]);
        }
    }

    // 4
    private static void hurt() {
        RunningThree x = Check.fieldOf(".;p96,p96-2");
        due("hurt", x.hurt(1, 5), 2);
        due("hurt", x.hurt(1, 0), 5);
        due("hurt", x.hurt(1, 6), 0);
        due("hurt: he has won", x.count(7), 1);
        due("hurt: up again", x.hurt(1, 3), 6);
        due("hurt", x.of(1, 3), 3);
        due("hurt: v", x.hurt(1, 7), BAD);
        due("hurt: v", x.hurt(1, -1), BAD);
        due("hurt: nobody", x.hurt(2, 1), BAD);
        due("hurt: nobody", x.hurt(-1, 1), BAD);
        due("hurt: nothing changed", x.of(1, 3), 3);
        x.turn();
        due("hurt: turned", x.hurt(1, 1), NOT);
        due("hurt: turned, and wrong", x.hurt(1, 7), BAD);
        due("hurt: nothing changed", x.of(1, 3), 3);
    }

    // 5
    private static void start() {
        RunningThree x = Check.fieldOf("...........;p11,p11");
        due("start", x.start(20), 0);
        due("start", x.start(4), 20);
        due("start", x.start(21), BAD);
        due("start", x.start(-1), BAD);
        x.moment();
        due("start: behind moment 0", x.start(3), NOT);
        due("start: behind moment 0, and wrong", x.start(21), BAD);
        x.undo();
        due("start: again", x.start(3), 4);
        Check.read(x, ".;p11,p11");
        due("start: stays with a field", x.start(3), 3);
        x.turn();
        due("start: turned in moment 0", x.start(5), 3);
    }

    // 6, 7
    private static void sortAndCost() {
        RunningThree x = Check.fieldOf("./v.v//");
        int[] sorts = {0, 1, 2, 0, 2, 1, 1};
        int[] costs = {0, 2, 5, 6, 9, 11, 13};
        for (int c = 0; c < sorts.length; c++) {
            due("sort(" + c + ")", x.sort(c), sorts[c]);
            due("cost(" + c + ")", x.cost(c), costs[c]);
        }
        int[] wrong = {-1, 7, 40, LEAST, MOST};
        for (int c : wrong) {
            due("sort(" + c + ")", x.sort(c), BAD);
            due("cost(" + c + ")", x.cost(c), BAD);
        }
        RunningThree y = Check.fieldOf("." + "v".repeat(39));
        due("cost of the dearest", y.cost(39), 117);
        Check.read(y, "...");
        due("sort of a cell that was", y.sort(3), BAD);
        due("cost anew", y.cost(2), 2);
    }

    // 8
    private static void points() {
        RunningThree x = Check.fieldOf(".;p13-3,s13,l13,f13,s11-6");
        int[] t = {0, 1, 5, 6, 7, 9, 400};
        int[][] all = {
            {0, 2, 10, 12, 14, 18, 800},
            {0, 2, 10, 12, 14, 18, 800},
            {0, 1, 7, 9, 10, 13, 600},
            {0, 1, 7, 9, 12, 18, 1191},
            {0, 1, 5, 6, 7, 9, 400}};
        for (int f = 0; f < all.length; f++) {
            for (int k = 0; k < t.length; k++) {
                due("points(" + f + ", " + t[k] + ")", x.points(f, t[k]), all[f][k]);
            }
        }
        x.hurt(0, 6);
        due("points: as hurt as it is", x.points(0, 7), 7);
        due("points: t", x.points(0, -1), BAD);
        due("points: t", x.points(0, 401), BAD);
        due("points: nobody", x.points(5, 0), BAD);
        due("points: nobody", x.points(-1, 0), BAD);
    }

    // 9
    private static void type() {
        RunningThree x = new RunningThree();
        due("type(31)", x.type(31), BAD);
        due("type(127)", x.type(127), BAD);
        due("type(-1)", x.type(-1), BAD);
        due("type(32)", x.type(32), 1);
        due("type(126)", x.type(126), 2);
        for (int k = 3; k <= 100; k++) {
            due("type", x.type('.'), k);
        }
        due("type: the 101st", x.type('.'), FULL);
        due("type: a wrong 101st", x.type(31), BAD);
        due("field", x.field(), -21);
        due("type: behind field()", x.type('.'), 1);
    }

    // 10
    private static void field() {
        RunningThree x = new RunningThree();
        due("field: no fighters", Check.read(x, "./v"), 0);
        due("field: cells", x.count(0), 3);
        due("field: one", Check.read(x, ".;p11"), 1);
        due("field: five", Check.read(x, ".;p11,s26-1,l33-6,f46-2,p96-0"), 5);
        due("field: 40 cells", Check.read(x, ".".repeat(40)), 0);
        due("field: cells", x.count(0), 40);
        String dense = "./v;s94-2,f16";
        due("field: blanks", Check.read(x, "  " + dense.replaceAll("(.)", "$1 ")), 2);
        due("field: kind", x.of(0, 0), 1);
        due("field: strength", x.of(0, 1), 9);
        due("field: pace", x.of(0, 2), 4);
        due("field: hurt", x.of(0, 3), 2);
        due("field: kind", x.of(1, 0), 3);
        due("field: unhurt", x.of(1, 3), 0);
        due("field: sort", x.sort(2), 2);
    }

    private static void fieldFaults() {
        String five = ".;p11,p11,p11,p11,p11";
        Object[][] all = {
            {"", 0}, {"   ", 3}, {";", 0}, {"v", 0}, {"/.", 0}, {"p11", 0}, {".x", 1}, {". x", 2}, {".V", 1},
            {".".repeat(41), 40}, {".".repeat(40) + " /;p11", 41}, {".,", 1}, {".;", 2}, {".;  ", 4}, {".;x11", 2},
            {".;;", 2}, {".;p", 3}, {".;p0", 3}, {".;pp", 3}, {".;p1", 4}, {".;p10", 4}, {".;p17", 4},
            {".;p11-", 6}, {".;p11-7", 6}, {".;p11--", 6}, {".;p11-66", 7}, {".;p111", 5}, {".;p11,", 6},
            {".;p11;", 5}, {".;p11 p11", 6}, {".;p11,,", 6}, {five + ",", five.length()},
            {five + ",p11", five.length()}, {five + " ,p11", five.length() + 1}, {".;P11", 2}, {".;p11-0-", 7}};
        for (Object[] one : all) {
            RunningThree x = Check.fieldOf("../;p11,p22");
            x.moment();
            due("field() of '" + one[0] + "'", Check.read(x, (String) one[0]), -20 - (Integer) one[1]);
            due("field: all stays", x.count(0), 3);
            due("field: all stays", x.count(1), 2);
            due("field: all stays", x.count(2), 1);
            due("field: all stays", x.count(5), 1);
            due("field: the tape is empty", x.type('.'), 1);
        }
    }

    private static void fieldReplaces() {
        RunningThree x = Check.fieldOf("......;p91,p11-5,p22,p33");
        x.start(2);
        x.seed(77);
        x.moment();
        x.turn();
        due("field", Check.read(x, "..;l55"), 1);
        int[] counts = {2, 1, 0, 0, NONE, 0, 0, 3};
        for (int k = 0; k < counts.length; k++) {
            due("field: count(" + k + ")", x.count(k), counts[k]);
        }
        due("field: START stays", x.start(2), 2);
        due("field: THE DRAW stays", x.seed(1), 77);
        due("field: nothing to be undone", x.undo(), NONE);
        due("field: only one", x.of(1, 0), BAD);
    }

    // 11
    private static void count() {
        RunningThree x = Check.fieldOf("..../;p11-6,p22-6,p33-1,l44-6");
        due("count(0)", x.count(0), 5);
        due("count(1)", x.count(1), 4);
        due("count(6)", x.count(6), 11);
        due("count(7)", x.count(7), 2);
        x.hurt(0, 0);
        due("count(6)", x.count(6), 10);
        due("count(7)", x.count(7), 0);
        x.hurt(2, 6);
        due("count(7)", x.count(7), 1);
        x.hurt(2, 5);
        x.moment();
        due("count(2)", x.count(2), 1);
        due("count(5)", x.count(5), 1);
        due("count(8)", x.count(8), BAD);
        due("count(-1)", x.count(-1), BAD);
        due("count(7): one alone", Check.fieldOf(".;p11").count(7), 3);
        due("count(7): one alone, down", Check.fieldOf(".;p11-6").count(7), 3);
        due("count(7): all down", Check.fieldOf(".;p11-6,p11-6").count(7), 2);
    }

    // 12
    private static void moment() {
        due("moment: nobody pursues", Check.fieldOf(".;p11").moment(), NOT);
        due("moment: he is down", Check.fieldOf(".;p11-6,p11").moment(), NOT);
        due("moment: he has won", Check.fieldOf(".;p11,p11-6").moment(), NOT);
        RunningThree x = Check.fieldOf("....;p21,p11-6");
        due("moment: he has won", x.moment(), NOT);
        due("moment: refused", x.count(2), 0);
        due("moment: refused", x.count(5), 0);
    }

    private static void caught() {
        // He makes 1 a moment, the other 3, 2 moments behind: 1|0 2|0 3|3.
        RunningThree x = Check.fieldOf("..........;p21,p13");
        x.start(2);
        due("caught: not yet", x.moment(), NONE);
        due("caught: not yet", x.moment(), NONE);
        due("caught: not yet", x.count(3), 0);
        due("caught: no fight in that moment", x.moment(), NONE);
        due("caught", x.count(3), 1);
        due("caught: where", x.count(4), 3);
        due("caught: when it came", x.of(1, 6), 3);
        due("caught: a fight behind it", x.moment() == NONE ? 0 : 1, 1);
        RunningThree y = Check.fieldOf("...;p22,p11");
        y.start(20);
        due("caught: in the last cell", y.moment(), NONE);
        due("caught: in the last cell", y.count(4), 2);
        RunningThree z = Check.fieldOf(".;p22,p11");
        due("caught: not in moment 0", z.count(3), 0);
        z.moment();
        due("caught: one cell", z.count(4), 0);
        RunningThree down = Check.fieldOf("..........;p21,p16-6,p11");
        down.start(20);
        down.moment();
        due("caught: not by one that is down", down.count(3), 0);
        // A lame one makes nothing in the first moment, so they are all where they were.
        RunningThree lame = Check.fieldOf("...;l11,p11");
        lame.start(9);
        lame.moment();
        due("caught: in cell 0, where all are", lame.count(4), 0);
    }

    private static int draw(int d) {
        return (int) ((d * 1103515245L + 12345L) % (1L << 31));
    }

    private static void fights() {
        // Strengths 5 and 3: odds 10 of 16, until hurts lessen a force.
        RunningThree x = Check.fieldOf(".;p51,p31");
        x.turn();
        int d = 1;
        int[] hurts = {0, 0};
        while (hurts[0] < 6 && hurts[1] < 6) {
            d = draw(d);
            int odds = 8 + Math.max(1, 5 - hurts[0] / 2) - Math.max(1, 3 - hurts[1] / 2);
            int who = odds > d / 65536 % 16 ? 1 : 0;
            hurts[who]++;
            due("fights: who is hurt", x.moment(), who);
            due("fights: the draw", x.seed(d), d);
        }
        due("fights: his hurt", x.of(0, 3), hurts[0]);
        due("fights: the other's", x.of(1, 3), hurts[1]);
        due("fights: over", x.count(7), hurts[0] == 6 ? 2 : 1);
        due("fights: over", x.moment(), NOT);
        boundsOfOdds();
    }

    /** Whatever is drawn below 15, the much stronger one wins; at 15 not even he does. */
    private static void boundsOfOdds() {
        for (int s = 1; s < 400; s++) {
            int drawn = draw(s) / 65536 % 16;
            RunningThree strong = Check.fieldOf(".;s91,p11");
            strong.turn();
            strong.seed(s);
            due("odds at most 15", strong.moment(), drawn < 15 ? 1 : 0);
            RunningThree weak = Check.fieldOf(".;p11,s91,s91,s91,s91");
            weak.turn();
            weak.seed(s);
            due("odds at least 1", weak.moment(), drawn < 1 ? 1 : 0);
            RunningThree even = Check.fieldOf(".;p51,p51");
            even.turn();
            even.seed(s);
            due("odds of like ones", even.moment(), drawn < 8 ? 1 : 0);
        }
    }

    private static void manyThere() {
        for (int s = 1; s < 200; s++) {
            int drawn = draw(s) / 65536 % 16;
            RunningThree x = Check.fieldOf(".;p51,p51,p51-6,p51");
            x.turn();
            x.seed(s);
            due("2 less for the other one there", x.moment(), drawn < 6 ? 1 : 0);
            // In cell 3 (cost 3) the second comes in moment 1, the first in 3: the second is first.
            RunningThree y = Check.fieldOf("....;p53,p51,p53");
            y.moment();
            y.seed(s);
            due("who came first", y.moment(), drawn < 8 ? 2 : 0);
            int again = draw(draw(s)) / 65536 % 16;
            due("then both are there", y.moment(), again < 6 ? 2 : 0);
        }
    }

    // 13
    private static void turn() {
        RunningThree x = Check.fieldOf("...../;p12,p11");
        x.start(5);
        x.moment();
        due("turn", x.turn(), 2);
        due("turn", x.count(3), 1);
        due("turn: where", x.count(4), 2);
        due("turn: no moment", x.count(2), 1);
        due("turn: twice", x.turn(), NOT);
        due("turn: in moment 0", Check.fieldOf("...;p12,p11").turn(), 0);
        due("turn: nobody", new RunningThree().turn(), NOT);
        due("turn: alone", Check.fieldOf(".;p11").turn(), NOT);
        due("turn: down", Check.fieldOf(".;p11-6,p11").turn(), NOT);
        due("turn: won", Check.fieldOf(".;p11,p11-6").turn(), NOT);
    }

    // 14
    private static void undo() {
        RunningThree x = Check.fieldOf("..........;p52,p51-5,p31");
        x.start(1);
        x.moment();
        x.moment();
        x.hurt(1, 3);
        x.seed(99);
        x.turn();
        due("undo", x.undo(), 1);
        int[] counts = {10, 3, 1, 0, NONE, 1, 0, 0};
        for (int k = 0; k < counts.length; k++) {
            due("undo: count(" + k + ")", x.count(k), counts[k]);
        }
        due("undo: hurt", x.of(1, 3), 5);
        due("undo: the draw", x.seed(1), 1);
        due("undo", x.undo(), 0);
        due("undo: moment 0", x.count(2), 0);
        due("undo", x.undo(), NONE);
        x.turn();
        due("undo: a turn is no moment", x.undo(), NONE);
        due("undo: still turned", x.count(4), 0);
        x.moment();
        int hurtBy = x.of(0, 3);
        due("undo: a fight", x.undo(), 0);
        due("undo: as before it", x.of(0, 3), 0);
        due("undo: still turned", x.count(3), 1);
        due("undo: the draw too", x.seed(1), 1);
        x.moment();
        due("undo: the same again", x.of(0, 3), hurtBy);
    }

    private static void undoKnowsEight() {
        RunningThree x = Check.fieldOf("." + "v".repeat(39) + ";p11,p11");
        x.start(20);
        for (int k = 1; k <= 11; k++) {
            x.moment();
            due("undo: known", x.count(5), Math.min(8, k));
        }
        for (int k = 7; k >= 0; k--) {
            due("undo", x.undo(), k);
            due("undo: the moment", x.count(2), 3 + k);
        }
        due("undo", x.undo(), NONE);
        due("undo: older ones are lost", x.count(2), 3);
        x.moment();
        due("undo: known again", x.count(5), 1);
    }

    // 15
    private static void seed() {
        RunningThree x = new RunningThree();
        due("seed", x.seed(0), 1);
        due("seed", x.seed(MOST), 0);
        due("seed", x.seed(-1), BAD);
        due("seed", x.seed(LEAST), BAD);
        due("seed", x.seed(5), MOST);
        Check.read(x, ".;p11,p11");
        x.turn();
        x.seed(MOST);
        x.moment();
        due("seed: goes on", x.seed(1), draw(MOST));
    }

    // 16
    private static void chance() {
        due("chance: even", Check.fieldOf(".;p11-5,p11-5").chance(0), 500000);
        due("chance: 9 of 16", Check.fieldOf(".;p51-5,p41-5").chance(0), 562500);
        due("chance: two there", Check.fieldOf(".;p11-5,p11-5,p11-5").chance(0), 187500);
        due("chance: three there", Check.fieldOf(".;p11-5,p11-5,p11-5,p11-5").chance(0), 46875);
        // 15/16 six times, cut each time, where a force of 1 meets 9 and 2 more.
        int c = 1000000;
        for (int k = 0; k < 6; k++) {
            c = c * 15 / 16;
        }
        due("chance: cut at each step", Check.fieldOf(".;s91-5,p11").chance(0), c);
        RunningThree x = Check.fieldOf(".;p11-5,p11-5");
        due("chance(-1)", x.chance(-1), BAD);
        due("chance(401)", x.chance(401), BAD);
        due("chance(400)", x.chance(400), 500000);
        x.turn();
        due("chance: turned", x.chance(9), 500000);
        due("chance: nobody", new RunningThree().chance(0), NOT);
        due("chance: nobody, and wrong", new RunningThree().chance(-1), BAD);
        due("chance: down", Check.fieldOf(".;p11-6,p11").chance(0), NOT);
        due("chance: won", Check.fieldOf(".;p11,p11-6").chance(0), NOT);
        due("chance: nothing is changed", x.count(2), 0);
        due("chance: no draw", x.seed(1), 1);
    }

    /** In moment 1 he is in cell 2: the second comes in 1, the third in 4, so he meets them singly. */
    private static final String STRUNG_OUT = "...;p16-5,p16-5,l11-5";

    private static void chanceByT() {
        RunningThree x = Check.fieldOf(STRUNG_OUT);
        due("chance by 0", x.chance(0), 187500);
        due("chance by 1", x.chance(1), 250000);
        due("chance by 400: caught in 1", x.chance(400), 250000);
        x.moment();
        due("chance before now", x.chance(0), 250000);
        due("chance now he has turned", x.count(3), 1);
        // A wound in the fight makes nobody come later: the one there stays there, and is first.
        RunningThree y = Check.fieldOf("...;p96,p14-2,p14-3");
        y.moment();
        int before = y.of(1, 6);
        y.seed(0);
        y.moment();
        due("chance: it came as it was", y.of(1, 6), before);
    }

    // 17
    private static void best() {
        RunningThree x = Check.fieldOf(STRUNG_OUT);
        due("best(0)", x.best(0), 1);
        due("best(1)", x.best(1), 250000);
        due("best(2)", x.best(2), BAD);
        due("best(-1)", x.best(-1), BAD);
        due("best: of like ones the first", Check.fieldOf("....;p11-5,p11-5").best(0), 0);
        x.turn();
        due("best: turned", x.best(0), NOT);
        due("best: turned, and wrong", x.best(2), BAD);
        due("best: nobody", new RunningThree().best(0), NOT);
        RunningThree y = Check.fieldOf("....;p11-5,p11-5");
        y.start(9);
        y.moment();
        due("best: from now on", y.best(0), 1);
    }

    // 18
    private static void late() {
        RunningThree x = Check.fieldOf(STRUNG_OUT);
        due("late(0)", x.late(0), 60);
        due("late(250000)", x.late(250000), 60);
        due("late(250001)", x.late(250001), NONE);
        due("late(1000000)", x.late(1000000), NONE);
        due("late(1000001)", x.late(1000001), BAD);
        due("late(-1)", x.late(-1), BAD);
        x.turn();
        due("late: turned", x.late(0), NOT);
        due("late: turned, and wrong", x.late(-1), BAD);
        lateBeforeTheEnd();
        // By 0 the strong one is first (1 of 16, however many there are), then the weak one alone (8);
        // by 1 the weak one comes first, and the strong one is there too (6, then 1).
        RunningThree y = Check.fieldOf("./;p16-5,s91-5,p16-5");
        due("late: by 0 alone", y.late(31250), 0);
        due("late: by 0 alone", y.late(23438), 0);
        due("late: by all", y.late(23437), 60);
        due("best: by 0", y.best(1), 31250);
    }

    /**
     * He makes 4 a moment, one of them 3, the feigning one 2 and from 6 on 4: by T 2 to 6 it comes a
     * moment behind the other or more, later (and sooner) in the same one.
     */
    private static void lateBeforeTheEnd() {
        RunningThree x = Check.fieldOf("." + ".".repeat(36) + ";p16-5,p15-5,f16-5");
        x.start(1);
        due("late: the first with the most", x.best(0), 2);
        due("late: the last with the most", x.late(250000), 6);
        due("late: with less", x.late(249999), 6);
        due("late: with as little", x.late(187500), 60);
        x.moment();
        x.moment();
        due("late: from now on", x.late(250000), 6);
        due("late: to 60 behind now", x.late(0), 62);
        due("best: from now on", x.best(0), 2);
        x.moment();
        due("best: from now on", x.best(0), 3);
    }

    // 19
    private static void together() {
        RunningThree x = Check.fieldOf(STRUNG_OUT);
        due("together(0, 0)", x.together(0, 0), 187500);
        due("together(1, 0)", x.together(1, 0), 187500);
        due("together(400, 0)", x.together(400, 0), 187500);
        due("together(0, 1)", x.together(0, 1), 187500);
        due("together(0, 2)", x.together(0, 2), 1);
        due("together: no need", Check.fieldOf(".;p11-5,p11-5,p11-5").together(0, 2), 0);
        due("together: one that is down slows nobody", Check.fieldOf("...;p16-5,p16-5,l11-6").together(1, 0), 500000);
        due("together(-1, 0)", x.together(-1, 0), BAD);
        due("together(401, 1)", x.together(401, 1), BAD);
        due("together(0, 3)", x.together(0, 3), BAD);
        due("together(0, -1)", x.together(0, -1), BAD);
        x.turn();
        due("together: turned", x.together(0, 0), NOT);
        due("together: turned, and wrong", x.together(0, 3), BAD);
        due("together: nobody", new RunningThree().together(0, 0), NOT);
    }

    // 20
    private static void ditched() {
        // Paces 4, 4 and 1: to cell 1 the last one comes in 1, by a ditch in 3.
        RunningThree x = Check.fieldOf("..;p16-5,p16-5,p11-5");
        due("ditched: best without", x.best(1), 187500);
        due("ditched", x.ditched(), 1);
        due("ditched: nothing is changed", x.sort(1), 0);
        due("ditched: nothing is changed", x.cost(1), 1);
        due("ditched: a hill is not plain", Check.fieldOf("./;p16-5,p16-5,l11-5").ditched(), NONE);
        due("ditched: no better", Check.fieldOf("..;p11-5,p11-5").ditched(), NONE);
        due("ditched: one cell", Check.fieldOf(".;p11-5,p11-5,p11-5").ditched(), NONE);
        x.turn();
        due("ditched: turned", x.ditched(), NOT);
        due("ditched: nobody", new RunningThree().ditched(), NOT);
        // Either cell as a ditch parts them alike: the first.
        due("ditched: the first of like ones", Check.fieldOf("...;p16-5,p16-5,p12-5").ditched(), 1);
    }

    // 21
    private static void ahead() {
        RunningThree x = Check.fieldOf(".;p11-5,p11-4,p11-5");
        due("ahead(0)", x.ahead(0), 2);
        due("ahead(1)", x.ahead(1), 250000);
        due("ahead(2)", x.ahead(2), BAD);
        due("ahead(-1)", x.ahead(-1), BAD);
        due("ahead: nothing is changed", x.of(2, 3), 5);
        RunningThree like = Check.fieldOf(".;p11-5,p11-6,p11-5,p11-5");
        due("ahead: of like ones the least that is up", like.ahead(0), 2);
        due("ahead: how much", like.ahead(1), 500000);
        RunningThree one = Check.fieldOf(".;p11,p11-6,p11-5");
        due("ahead: the last", one.ahead(0), 2);
        due("ahead: the last", one.ahead(1), 1000000);
        x.turn();
        due("ahead: turned", x.ahead(0), NOT);
        due("ahead: turned, and wrong", x.ahead(2), BAD);
        due("ahead: nobody", new RunningThree().ahead(0), NOT);
        due("ahead: hopeless, still one of the others", Check.fieldOf(".;p11-5,s91,s91,s91,s91").ahead(0), 1);
    }

    // 22
    private static void fields() {
        RunningThree x = Check.fieldOf(".;p51-4,p41-4,p41-5");
        for (int n = 1; n <= 90; n += 7) {
            int d = x.seed(1);
            x.seed(d);
            int wins = 0;
            for (int k = 0; k < n; k++) {
                int[] hurts = {4, 4, 5};
                while (hurts[0] < 6 && (hurts[1] < 6 || hurts[2] < 6)) {
                    d = draw(d);
                    int f = hurts[1] < 6 ? 1 : 2;
                    int odds = 8 + 5 - hurts[0] / 2 - (4 - hurts[f] / 2) - (f == 1 ? 2 : 0);
                    hurts[odds > d / 65536 % 16 ? f : 0]++;
                }
                wins += hurts[0] < 6 ? 1 : 0;
            }
            due("fields(3, " + n + ")", x.fields(3, n), wins);
            int now = x.seed(d);
            due("fields: the draw goes on", now, d);
        }
        due("fields: nothing else is changed", x.of(1, 3), 4);
        due("fields: nothing else is changed", x.count(2), 0);
        due("fields: nothing else is changed", x.count(3), 0);
        due("fields: nothing else is changed", x.count(5), 0);
        int[][] wrong = {{-1, 1}, {401, 1}, {0, 0}, {0, 91}, {0, -1}};
        for (int[] w : wrong) {
            due("fields: wrong", x.fields(w[0], w[1]), BAD);
        }
        due("fields: nobody", new RunningThree().fields(0, 1), NOT);
        x.turn();
        due("fields: turned", x.fields(400, 1) >= 0 ? 1 : 0, 1);
        // Singly 15 of 16, both at once 13 of 16.
        int alone = Check.fieldOf("...;s96-5,p16-5,l11-5").fields(1, 90);
        due("fields: by T", alone > 70 ? 1 : 0, 1);
    }

    // 23, 24
    private static void imageAndRestore() {
        RunningThree x = Check.fieldOf("../v.....;p52,p51-5,p31");
        x.start(3);
        x.seed(17);
        x.moment();
        x.moment();
        x.turn();
        Check.items(x, 1, 0, 9, 8);
        x.type('.');
        due("image", x.image(), 1);
        int[] counts = {9, 3, 2, 1, 2, 2, 0, 0};
        for (int k = 0; k < 14; k++) {
            x.moment();
        }
        Check.read(x, ";");
        Check.read(x, ".;p11,p11");
        x.start(0);
        x.seed(4);
        x.drop(1);
        x.type('.');
        for (int twice = 0; twice < 2; twice++) {
            due("restore", x.restore(), 1);
            for (int k = 0; k < counts.length; k++) {
                due("restore: count(" + k + ")", x.count(k), counts[k]);
            }
            due("restore: the draw", x.seed(3), 17);
            due("restore: hurt", x.of(1, 3), 5);
            due("restore: comes", x.of(1, 6), 6);
            due("restore: the ground", x.cost(3), 6);
            due("restore: undo", x.undo(), 1);
            due("restore: undo", x.undo(), 0);
            due("restore: START", x.start(1), 3);
        }
        due("restore: not the sheets", x.drop(1), NULL);
        due("restore: not the tape", x.type('.'), 2);
        RunningThree y = new RunningThree();
        y.image();
        y.fighter(0, 1, 1);
        y.restore();
        due("restore: nobody", y.count(1), 0);
        imageByNobody();
    }

    private static void imageByNobody() {
        RunningThree x = Check.fieldOf(".;p11,p11-6");
        due("image: when it is over", x.image(), 1);
        Check.read(x, "..");
        due("restore: when there is nobody", x.restore(), 1);
        due("restore", x.count(7), 1);
        due("image: the latest", x.hurt(1, 3), 6);
        x.image();
        x.hurt(1, 0);
        x.restore();
        due("restore: the latest", x.of(1, 3), 3);
    }

    // 25
    private static void strides() {
        // Costs 0 1 3 6 7 8 9 10 11 12.
        RunningThree x = Check.fieldOf("../v......;p15,s15,l16,f16-6");
        Check.items(x, 0, 1, 2, 4, 7, 7, 1, 2, 2, 3, 400, 9);
        due("strides: pace 4 by 2", x.strides(0, 0, 1, 0, 1), 0);
        due("strides: pace 3 by 1, 2", x.strides(0, 0, 1, 4, 2), 1 << 4 | 1 << 5);
        due("strides: shielded", x.strides(1, 0, 1, 4, 2), 1 << 2 | 1 << 3);
        due("strides: lame", x.strides(2, 0, 1, 4, 2), 3);
        due("strides: feigning", x.strides(3, 0, 1, 4, 2), 3);
        due("strides: all", x.strides(0, 0, 1, 8, 1), 63);
        due("strides: pairs from i on", x.strides(0, 0, 1, 3, 1), 0);
        due("strides: beyond", x.strides(0, 0, 1, 9, 1), INDEX);
        due("strides: before", x.strides(0, 0, 1, -1, 1), INDEX);
        due("strides: far beyond", x.strides(0, 0, 1, MOST, 8), INDEX);
        due("strides: far before", x.strides(0, 0, 1, LEAST, 8), INDEX);
        due("strides: lane", x.strides(0, 0, 2, -1, 1), CAST);
        due("strides: nothing", x.strides(0, 1, 1, -1, 1), NULL);
        int[][] wrong = {{4, 0, 1, 0, 1}, {-1, 0, 1, 0, 1}, {0, 4, 1, 0, 1}, {0, -1, 1, 0, 1}, {0, 0, 4, 0, 1}, {0, 0, -1, 0, 1}, {0, 1, 1, 0, 0}, {0, 1, 1, 0, 9}};
        for (int[] w : wrong) {
            due("strides: wrong", x.strides(w[0], w[1], w[2], w[3], w[4]), BAD);
        }
        long[][] untold = {{401, 0}, {-1, 0}, {0, 10}, {0, -1}, {1L << 32, 0}, {0, 1L << 40}};
        for (long[] u : untold) {
            Check.items(x, 2, 3, 0, 0, u[0], u[1]);
            due("strides: not as told", x.strides(0, 2, 3, 0, 2), NOT);
            due("strides: the first as told", x.strides(0, 2, 3, 0, 1), 63);
        }
        x.sheet(3, 0, 16);
        due("strides: eight", x.strides(0, 3, 0, 0, 8), 63);
    }

    // 26
    private static void far() {
        // Pace 2 against 1 (lame: half of it) and 1; behind 2 moments.
        RunningThree x = Check.fieldOf("..........;p12,l11,p11-6,p11");
        x.start(2);
        Check.items(x, 0, 2, 5, 10, 6, 0, 0);
        due("far: cell 4, in 2", x.far(0, 2, 1, 0), 1);
        due("far: cell 4, in 2", x.far(0, 2, 1, 1), 2);
        due("far: in 0", x.far(0, 2, 3, 0), 1);
        due("far: in 0", x.far(0, 2, 3, 1), 0);
        due("far: never so", x.far(0, 2, 0, 0), 0);
        due("far: never so", x.far(0, 2, 0, 1), NONE);
        due("far: beyond", x.far(0, 2, 4, 0), INDEX);
        due("far: before", x.far(0, 2, -1, 0), INDEX);
        due("far: far beyond", x.far(0, 2, MOST, 0), INDEX);
        due("far: lane", x.far(0, 3, 9, 0), CAST);
        due("far: nothing", x.far(1, 3, 9, 0), NULL);
        int[][] wrong = {{4, 0, 0, 0}, {-1, 0, 0, 0}, {1, 4, 0, 0}, {1, -1, 0, 0}, {1, 0, 0, 2}, {1, 0, 0, -1}};
        for (int[] w : wrong) {
            due("far: wrong", x.far(w[0], w[1], w[2], w[3]), BAD);
        }
        x.moment();
        x.turn();
        due("far: whatever has been since", x.far(0, 2, 1, 1), 2);
        // He is in cell 1 in 2 and 3, in cell 0 in 0 and 1: half of 1, and caught in 1 by them there.
        RunningThree y = Check.fieldOf("....;l11,p11");
        y.start(3);
        Check.items(y, 0, 0, 0, 4);
        due("far: caught in 1, so not in 2", y.far(0, 0, 1, 0), 0);
        due("far: in 0 and 1", y.far(0, 0, 0, 0), 2);
        farByNobody();
    }

    private static void farByNobody() {
        RunningThree x = Check.fieldOf(".....;p11");
        x.sheet(0, 0, 0);
        due("far: nobody comes, he runs to the last cell", x.far(0, 0, 0, 0), 5);
        due("far: beyond no items", x.far(0, 0, 1, 0), INDEX);
        Check.read(x, ".....");
        due("far: no runner", x.far(0, 0, 0, 0), 0);
        due("far: no runner", x.far(0, 0, 0, 1), NONE);
        Check.read(x, "." + "v".repeat(39) + ";p11");
        due("far: to 60", x.far(0, 0, 0, 0), 61);
    }

    // 27
    private static void film() {
        RunningThree x = Check.fieldOf(STRUNG_OUT);
        x.sheet(0, 2, 24);
        due("film: 24", x.film(24, 0, 2, 0), 24);
        due("film: 25", x.film(25, 0, 2, 0), BAD);
        due("film: 0", x.film(0, 0, 2, 0), BAD);
        due("film: beyond", x.film(24, 0, 2, 1), INDEX);
        due("film: before", x.film(1, 0, 2, -1), INDEX);
        due("film: far beyond", x.film(24, 0, 2, MOST), INDEX);
        due("film: lane", x.film(2, 0, 1, 99), CAST);
        due("film: nothing", x.film(2, 1, 1, 99), NULL);
        due("film: sheet", x.film(2, 4, 1, 0), BAD);
        due("film: sheet", x.film(2, -1, 1, 0), BAD);
        due("film: lane", x.film(2, 0, 4, 0), BAD);
        due("film: lane", x.film(2, 0, -1, 0), BAD);
        filmIsSeen();
        x.turn();
        due("film: turned", x.film(2, 1, 1, 99), NOT);
        due("film: turned, and wrong", x.film(0, 1, 1, 99), BAD);
        due("film: nobody", new RunningThree().film(1, 0, 0, 0), NOT);
    }

    /**
     * No call tells an item, but FAR asks for it as a MOMENT: a lame one of pace 1 comes in START and
     * twice the cost. By T 0, 1, 4 the chances are 201, 23, 68.
     */
    private static void filmIsSeen() {
        int[][] known = {{0, 201, 100, 1}, {1, 23, 10, 3}, {4, 68, 34, 0}};
        for (int lane = 0; lane < 4; lane++) {
            for (int[] k : known) {
                RunningThree x = Check.fieldOf("..../..v....//...v........;p55,p43-2,s54,l66-1");
                x.start(3);
                x.sheet(0, lane, 8);
                due("film", x.film(5, 0, lane, 2), 5);
                Check.read(x, ground(k[2]) + ";p16,l11");
                x.start(k[3]);
                boolean held = lane > 0 || k[1] < 128;
                due("film: " + k[1] + " in lane " + lane, x.far(0, lane, 2 + k[0], 0), held ? 1 : 0);
                due("film: nothing ahead of it", x.far(0, lane, 1, 1), 0);
                due("film: nothing behind it", x.far(0, lane, 7, 1), 0);
            }
        }
    }

    /** A ground whose last CELL is of that COST. */
    private static String ground(int cost) {
        StringBuilder text = new StringBuilder(".");
        int left = cost;
        while (left > 0) {
            int step = Math.min(3, left);
            text.append("./v".charAt(step - 1));
            left -= step;
        }
        return text.toString();
    }

    // 28
    private static void sheet() {
        RunningThree x = Check.fieldOf("......;p11,p11");
        due("sheet", x.sheet(0, 0, 0), 0);
        due("sheet", x.sheet(3, 3, 24), 24);
        due("sheet: 25", x.sheet(0, 0, 25), BAD);
        due("sheet: below 0", x.sheet(0, 0, -1), SIZE);
        due("sheet: below 0", x.sheet(0, 0, LEAST), SIZE);
        due("sheet: wrong, and below 0", x.sheet(4, 0, -1), BAD);
        due("sheet: wrong", x.sheet(-1, 0, 1), BAD);
        due("sheet: lane", x.sheet(0, 4, 1), BAD);
        due("sheet: lane", x.sheet(0, -1, -1), BAD);
        due("sheet: refused, as it was", x.drop(0), 0);
        due("sheet: refused, as it was", x.drop(3), 24);
        Check.items(x, 1, 2, 7, 7);
        due("sheet: new", x.sheet(1, 2, 2), 2);
        due("sheet: new, of zeros", x.strides(0, 1, 2, 0, 1), 63);
    }

    // 29
    private static void drop() {
        RunningThree x = new RunningThree();
        x.sheet(2, 1, 7);
        due("drop", x.drop(2), 7);
        due("drop: twice", x.drop(2), NULL);
        due("drop: item", x.item(2, 1, 0, 1), NULL);
        due("drop", x.drop(4), BAD);
        due("drop", x.drop(-1), BAD);
        x.sheet(2, 1, 0);
        due("drop: none", x.drop(2), 0);
    }

    // 30
    private static void item() {
        RunningThree x = Check.fieldOf("......;p11,p11");
        x.sheet(0, 0, 3);
        due("item", x.item(0, 0, 2, 1), 1);
        due("item: beyond", x.item(0, 0, 3, 1), INDEX);
        due("item: before", x.item(0, 0, -1, 1), INDEX);
        due("item: far beyond", x.item(0, 0, MOST, 1), INDEX);
        due("item: lane", x.item(0, 1, 9, 1), CAST);
        due("item: nothing", x.item(1, 1, 9, 1), NULL);
        due("item: sheet", x.item(4, 1, 0, 1), BAD);
        due("item: sheet", x.item(-1, 1, 0, 1), BAD);
        due("item: lane", x.item(0, 4, 0, 1), BAD);
        due("item: lane", x.item(0, -1, 0, 1), BAD);
        // Pace 1: in moment 2 in cell 2. The bits above the lane's are lost, the sign is the lane's own.
        long[] kept = {258, 65538, (1L << 32) + 2, 2};
        long[] toobig = {128, 32768, 1L << 31, 1L << 32};
        for (int lane = 0; lane < 4; lane++) {
            Check.items(x, 3, lane, 2, kept[lane]);
            due("item: lowest bits", x.strides(0, 3, lane, 0, 1), 63);
            Check.items(x, 3, lane, toobig[lane], 2);
            due("item: as the lane has it", x.strides(0, 3, lane, 0, 1), NOT);
        }
        Check.items(x, 3, 0, 127, 5);
        due("item: a byte", x.strides(0, 3, 0, 0, 1), 63);
        Check.items(x, 3, 1, 400, 5);
        due("item: a short", x.strides(0, 3, 1, 0, 1), 63);
    }

    // 31
    private static void copy() {
        RunningThree x = Check.fieldOf("......;p11,p11");
        Check.items(x, 0, 2, 1, 1, 2, 2, 3, 9);
        due("copy: onto itself", x.copy(0, 0, 0, 1, 4), 4);
        // 1 1 1 2 2 9
        due("copy: as if taken ahead", x.strides(0, 0, 2, 0, 1), 63);
        due("copy: as if taken ahead", x.strides(0, 0, 2, 3, 1), 63);
        due("copy: as if taken ahead", x.strides(0, 0, 2, 2, 1), 0);
        due("copy: the last stays", x.strides(0, 0, 2, 4, 1), NOT);
        x.sheet(1, 2, 3);
        due("copy: to another", x.copy(0, 3, 1, 0, 3), 3);
        due("copy: to another", x.strides(0, 1, 2, 0, 1), 63);
        due("copy: to another", x.strides(0, 1, 2, 1, 1), NOT);
        due("copy: nothing", x.copy(0, 6, 1, 3, 0), 0);
        int[][] beyond = {{0, 4, 1, 0, 3}, {0, 0, 1, 1, 3}, {0, -1, 1, 0, 1}, {0, 0, 1, -1, 1}, {0, 0, 1, 0, -1}, {0, 7, 1, 0, 0}, {0, 0, 1, 4, 0}, {0, MOST, 1, 0, MOST}, {0, 1, 1, 1, MOST}, {0, LEAST, 1, 0, LEAST}};
        for (int[] b : beyond) {
            due("copy: beyond", x.copy(b[0], b[1], b[2], b[3], b[4]), INDEX);
        }
        x.sheet(2, 3, 4);
        due("copy: unlike lanes", x.copy(0, 99, 2, 0, 1), CAST);
        due("copy: from nothing", x.copy(3, 99, 2, 0, 1), NULL);
        due("copy: to nothing", x.copy(0, 99, 3, 0, 1), NULL);
        int[][] wrong = {{4, 0, 0, 0, 1}, {-1, 0, 0, 0, 1}, {3, 0, 4, 0, 1}, {3, 0, -1, 0, 1}};
        for (int[] w : wrong) {
            due("copy: wrong", x.copy(w[0], w[1], w[2], w[3], w[4]), BAD);
        }
    }
}
