/**
 * Three against three, by running: the last of one side runs, the others, hurt unlike, come after
 * him strung out, and he turns on each singly. The words in capitals are those of the document.
 */
public final class RunningThree {
    public static final int BAD = -1, NOT = -2, FULL = -3, NONE = -4, NULL = -11, CAST = -12, INDEX = -13, SIZE = -14;

    private static final int MOST_CELLS = 40, MOST_FIGHTERS = 5, MOST_START = 20, LAST_MOMENT = 400;
    private static final int DOWN = 6, MILLION = 1000000;
    private static final int PLAIN = 0, DITCH = 2;
    private static final int LETTERS = 100, FAULT = -20;
    private static final int GOES_ON = 0, WON = 1, LOST = 2, NOBODY = 3;
    private static final int FORESEEN = 61, LAST_FAR = 60, MOST_RUNS = 90;
    private static final int SHEETS = 4, LANES = 4, ITEMS = 24, MOST_STRIDES = 8;

    private final Scene scene = new Scene();
    private final Past past = new Past();
    private final Scene keptScene = new Scene();
    private final Past keptPast = new Past();
    private boolean kept;
    private final FieldText tape = new FieldText();
    private final Foretelling foretelling = new Foretelling();
    private final Sheet[] sheets = new Sheet[SHEETS];

    public RunningThree() {
        for (int s = 0; s < sheets.length; s++) {
            sheets[s] = new Sheet();
        }
    }

    // ---- 1 ground, fighters

    public int fighter(int kind, int strength, int pace) {
        if (!within(kind, 0, 3) || !within(strength, 1, 9) || !within(pace, 1, 6)) {
            return BAD;
        }
        if (scene.hasTurned()) {
            return NOT;
        }
        if (scene.fighters >= MOST_FIGHTERS) {
            return FULL;
        }
        past.forget();
        return scene.addFighter(kind, strength, pace, 0);
    }

    public int of(int fighter, int what) {
        if (!scene.exists(fighter)) {
            return BAD;
        }
        switch (what) {
            case 0: return scene.kinds[fighter];
            case 1: return scene.strengths[fighter];
            case 2: return scene.paces[fighter];
            case 3: return scene.hurts[fighter];
            case 4: return scene.forceOf(fighter);
            case 5: return scene.cellNow(fighter);
            case 6: return scene.comingOf(fighter);
            default: return BAD;
        }
    }

    public int hurt(int fighter, int v) {
        if (!scene.exists(fighter) || !within(v, 0, DOWN)) {
            return BAD;
        }
        if (scene.hasTurned()) {
            return NOT;
        }
        int was = scene.hurts[fighter];
        scene.hurts[fighter] = v;
        return was;
    }

    public int start(int v) {
        if (!within(v, 0, MOST_START)) {
            return BAD;
        }
        if (scene.moment != 0) {
            return NOT;
        }
        int was = scene.start;
        scene.start = v;
        return was;
    }

    public int sort(int cell) {
        return scene.hasCell(cell) ? scene.sorts[cell] : BAD;
    }

    public int cost(int cell) {
        return scene.hasCell(cell) ? scene.costs[cell] : BAD;
    }

    public int points(int fighter, int t) {
        if (!scene.exists(fighter) || !within(t, 0, LAST_MOMENT)) {
            return BAD;
        }
        return scene.pointsOf(fighter, scene.hurts[fighter], t);
    }

    public int type(int letter) {
        if (!within(letter, 32, 126)) {
            return BAD;
        }
        return tape.add(letter) ? tape.length : FULL;
    }

    public int field() {
        boolean read = tape.read();
        tape.length = 0;
        if (!read) {
            return FAULT - tape.at;
        }
        tape.setUp(scene);
        past.forget();
        return scene.fighters;
    }

    public int count(int what) {
        switch (what) {
            case 0: return scene.cells;
            case 1: return scene.fighters;
            case 2: return scene.moment;
            case 3: return scene.hasTurned() ? 1 : 0;
            case 4: return scene.stand;
            case 5: return past.known;
            case 6: return scene.thoseDown();
            case 7: return scene.outcome();
            default: return BAD;
        }
    }

    // ---- moments

    public int moment() {
        if (scene.outcome() != GOES_ON) {
            return NOT;
        }
        if (scene.moment >= LAST_MOMENT) {
            return FULL;
        }
        past.remember(scene);
        scene.moment++;
        return scene.hasTurned() ? scene.fightFirst() : runOn();
    }

    private int runOn() {
        if (scene.isCaughtIn(scene.moment)) {
            scene.turnIn(scene.moment);
        }
        return NONE;
    }

    public int turn() {
        if (!mayTurn()) {
            return NOT;
        }
        scene.turnIn(scene.moment);
        return scene.stand;
    }

    public int undo() {
        return past.bringBack(scene) ? past.known : NONE;
    }

    public int seed(int v) {
        if (v < 0) {
            return BAD;
        }
        int was = scene.draw;
        scene.draw = v;
        return was;
    }

    // ---- 2 foretold

    public int chance(int t) {
        if (!within(t, 0, LAST_MOMENT)) {
            return BAD;
        }
        if (scene.outcome() != GOES_ON) {
            return NOT;
        }
        foretelling.begin(scene);
        return foretelling.chanceBy(t);
    }

    public int best(int what) {
        if (!within(what, 0, 1)) {
            return BAD;
        }
        if (!mayTurn()) {
            return NOT;
        }
        foretelling.begin(scene);
        int most = foretelling.foresee(FORESEEN);
        return what == 0 ? foretelling.firstWith(most) : most;
    }

    public int late(int chance) {
        if (!within(chance, 0, MILLION)) {
            return BAD;
        }
        if (!mayTurn()) {
            return NOT;
        }
        foretelling.begin(scene);
        foretelling.foresee(FORESEEN);
        return foretelling.lastWith(chance);
    }

    public int together(int t, int what) {
        if (!within(t, 0, LAST_MOMENT) || !within(what, 0, 2)) {
            return BAD;
        }
        if (!mayTurn()) {
            return NOT;
        }
        foretelling.begin(scene);
        // They all come in one MOMENT, so wherever he TURNS the fights are the same: no T is better.
        int chance = foretelling.chanceTogether();
        if (what < 2) {
            return chance;
        }
        return chance < foretelling.foresee(FORESEEN) ? 1 : 0;
    }

    public int ditched() {
        if (!mayTurn()) {
            return NOT;
        }
        foretelling.begin(scene);
        int most = foretelling.foresee(FORESEEN);
        int where = NONE;
        for (int c = 1; c < scene.cells; c++) {
            if (scene.sorts[c] == PLAIN) {
                foretelling.suppose(c, DITCH);
                int chance = foretelling.foresee(FORESEEN);
                foretelling.suppose(c, PLAIN);
                if (chance > most) {
                    most = chance;
                    where = c;
                }
            }
        }
        return where;
    }

    public int ahead(int what) {
        if (!within(what, 0, 1)) {
            return BAD;
        }
        if (!mayTurn()) {
            return NOT;
        }
        foretelling.begin(scene);
        int most = -1;
        int whom = NONE;
        for (int f = 1; f < scene.fighters; f++) {
            if (scene.isUp(f)) {
                foretelling.supposeHurt(f, scene.hurts[f] + 1);
                int chance = foretelling.foresee(FORESEEN);
                foretelling.supposeHurt(f, scene.hurts[f]);
                if (chance > most) {
                    most = chance;
                    whom = f;
                }
            }
        }
        return what == 0 ? whom : most;
    }

    public int fields(int t, int n) {
        if (!within(t, 0, LAST_MOMENT) || !within(n, 1, MOST_RUNS)) {
            return BAD;
        }
        if (scene.outcome() != GOES_ON) {
            return NOT;
        }
        foretelling.begin(scene);
        return foretelling.winsOf(scene, t, n);
    }

    public int image() {
        keptScene.takeFrom(scene);
        keptPast.takeFrom(past);
        kept = true;
        return 1;
    }

    public int restore() {
        if (!kept) {
            return NONE;
        }
        scene.takeFrom(keptScene);
        past.takeFrom(keptPast);
        return 1;
    }

    // ---- 3 sheets

    public int strides(int fighter, int sheet, int lane, int i, int n) {
        if (!scene.exists(fighter) || !isSheet(sheet) || !isLane(lane) || !within(n, 1, MOST_STRIDES)) {
            return BAD;
        }
        Sheet row = sheets[sheet];
        int refused = row.refusal(lane, i, 2 * n);
        if (refused < 0) {
            return refused;
        }
        if (!areSightings(row, i, n)) {
            return NOT;
        }
        int hurts = 0;
        for (int h = 0; h < DOWN; h++) {
            if (strodeSo(fighter, h, row, i, n)) {
                hurts |= 1 << h;
            }
        }
        return hurts;
    }

    private boolean areSightings(Sheet row, int i, int n) {
        for (int k = 0; k < n; k++) {
            long t = row.itemAt(i + 2 * k);
            long cell = row.itemAt(i + 2 * k + 1);
            if (t < 0 || t > LAST_MOMENT || cell < 0 || cell >= scene.cells) {
                return false;
            }
        }
        return true;
    }

    private boolean strodeSo(int fighter, int hurt, Sheet row, int i, int n) {
        for (int k = 0; k < n; k++) {
            int t = (int) row.itemAt(i + 2 * k);
            if (scene.cellBy(scene.pointsOf(fighter, hurt, t)) != row.itemAt(i + 2 * k + 1)) {
                return false;
            }
        }
        return true;
    }

    public int far(int sheet, int lane, int i, int what) {
        if (!isSheet(sheet) || !isLane(lane) || !within(what, 0, 1)) {
            return BAD;
        }
        Sheet row = sheets[sheet];
        int refused = row.refusal(lane, i, scene.othersUp());
        if (refused < 0) {
            return refused;
        }
        int last = lastFarTurn();
        return what == 0 ? turnsThatFit(row, i, last) : firstTurnThatFits(row, i, last);
    }

    private int turnsThatFit(Sheet row, int i, int last) {
        int fitting = 0;
        for (int t = 0; t <= last; t++) {
            if (comeAsTold(t, row, i)) {
                fitting++;
            }
        }
        return fitting;
    }

    private int firstTurnThatFits(Sheet row, int i, int last) {
        for (int t = 0; t <= last; t++) {
            if (comeAsTold(t, row, i)) {
                return t;
            }
        }
        return NONE;
    }

    /** Without a RUNNER there is no MOMENT in which he can have TURNED, so not even 0 counts. */
    private int lastFarTurn() {
        return scene.fighters == 0 ? -1 : scene.turnMoment(0, LAST_FAR);
    }

    private boolean comeAsTold(int t, Sheet row, int i) {
        int cell = scene.cellRunning(0, t);
        int at = i;
        for (int f = 1; f < scene.fighters; f++) {
            if (scene.isUp(f)) {
                if (row.itemAt(at) != scene.comesTo(f, cell)) {
                    return false;
                }
                at++;
            }
        }
        return true;
    }

    public int film(int n, int sheet, int lane, int i) {
        if (!within(n, 1, ITEMS) || !isSheet(sheet) || !isLane(lane)) {
            return BAD;
        }
        if (!mayTurn()) {
            return NOT;
        }
        Sheet row = sheets[sheet];
        int refused = row.refusal(lane, i, n);
        if (refused < 0) {
            return refused;
        }
        foretelling.begin(scene);
        foretelling.foresee(n);
        for (int k = 0; k < n; k++) {
            row.put(i + k, foretelling.foreseen(k));
        }
        return n;
    }

    public int sheet(int sheet, int lane, int n) {
        if (!isSheet(sheet) || !isLane(lane) || n > ITEMS) {
            return BAD;
        }
        if (n < 0) {
            return SIZE;
        }
        sheets[sheet].hold(lane, n);
        return n;
    }

    public int drop(int sheet) {
        if (!isSheet(sheet)) {
            return BAD;
        }
        Sheet row = sheets[sheet];
        if (!row.isThere()) {
            return NULL;
        }
        row.dropAll();
        return row.size;
    }

    public int item(int sheet, int lane, int i, long v) {
        if (!isSheet(sheet) || !isLane(lane)) {
            return BAD;
        }
        Sheet row = sheets[sheet];
        int refused = row.refusal(lane, i, 1);
        if (refused < 0) {
            return refused;
        }
        row.put(i, v);
        return 1;
    }

    public int copy(int from, int i, int to, int j, int n) {
        if (!isSheet(from) || !isSheet(to)) {
            return BAD;
        }
        Sheet source = sheets[from];
        Sheet target = sheets[to];
        if (!source.isThere() || !target.isThere()) {
            return NULL;
        }
        if (source.lane != target.lane) {
            return CAST;
        }
        if (!source.holds(i, n) || !target.holds(j, n)) {
            return INDEX;
        }
        System.arraycopy(source.items, i, target.items, j, n);
        return n;
    }

    // ---- what several calls ask

    private static boolean within(int v, int least, int most) {
        return v >= least && v <= most;
    }

    private static boolean isSheet(int sheet) {
        return within(sheet, 0, SHEETS - 1);
    }

    private static boolean isLane(int lane) {
        return within(lane, 0, LANES - 1);
    }

    private boolean mayTurn() {
        return scene.outcome() == GOES_ON && !scene.hasTurned();
    }

    /** What KIND, STRENGTH, PACE and HURT come to. */
    private static final class Kinds {
        private static final int SHIELDED = 1, LAME = 2, FEIGNING = 3;
        private static final int FEIGNED = 6;

        private Kinds() {
        }

        static int force(int kind, int strength, int hurt) {
            int plain = Math.max(1, strength - hurt / 2);
            return kind == SHIELDED ? plain + 2 : plain;
        }

        /** What a PLAIN one of that PACE would make in a MOMENT; never below 1, so it may divide. */
        static int stride(int kind, int pace, int hurt) {
            int ownPace = kind == SHIELDED ? Math.max(1, pace - 1) : pace;
            return Math.max(1, ownPace - hurt / 2);
        }

        static int pointsIn(int kind, int stride, int t) {
            switch (kind) {
                case LAME: return t * stride / 2;
                case FEIGNING: return Math.min(t, FEIGNED) * stride / 2 + Math.max(0, t - FEIGNED) * stride;
                default: return t * stride;
            }
        }

        /** The fewest MOMENTS in which pointsIn is no less than the cost. */
        static int momentsFor(int kind, int stride, int cost) {
            switch (kind) {
                case LAME: return shares(2 * cost, stride);
                case FEIGNING:
                    int feigned = FEIGNED * stride / 2;
                    return cost <= feigned ? shares(2 * cost, stride) : FEIGNED + shares(cost - feigned, stride);
                default: return shares(cost, stride);
            }
        }

        private static int shares(int whole, int share) {
            return share < 1 ? whole : (whole + share - 1) / share;
        }
    }

    /** THE GROUND, the FIGHTERS, THE MOMENT, whether and where he TURNED, THE DRAW. */
    private static final class Scene {
        private static final int RUNS = NONE;
        private static final int EVEN = 8, LEAST_ODDS = 1, MOST_ODDS = 15;
        private static final int NEVER = 1 << 30;

        private int cells = 1;
        private final int[] sorts = new int[MOST_CELLS];
        private final int[] costs = new int[MOST_CELLS];
        private int fighters;
        private final int[] kinds = new int[MOST_FIGHTERS];
        private final int[] strengths = new int[MOST_FIGHTERS];
        private final int[] paces = new int[MOST_FIGHTERS];
        private final int[] hurts = new int[MOST_FIGHTERS];
        private int start;
        private int moment;
        private int stand = RUNS;
        // Kept from the TURN on: a wound in the fight does not make one come later.
        private final int[] coming = new int[MOST_FIGHTERS];
        private int draw = 1;

        void takeFrom(Scene other) {
            cells = other.cells;
            fighters = other.fighters;
            start = other.start;
            moment = other.moment;
            stand = other.stand;
            draw = other.draw;
            System.arraycopy(other.sorts, 0, sorts, 0, MOST_CELLS);
            System.arraycopy(other.costs, 0, costs, 0, MOST_CELLS);
            System.arraycopy(other.kinds, 0, kinds, 0, MOST_FIGHTERS);
            System.arraycopy(other.strengths, 0, strengths, 0, MOST_FIGHTERS);
            System.arraycopy(other.paces, 0, paces, 0, MOST_FIGHTERS);
            System.arraycopy(other.coming, 0, coming, 0, MOST_FIGHTERS);
            takeHurts(other);
        }

        void takeHurts(Scene other) {
            System.arraycopy(other.hurts, 0, hurts, 0, MOST_FIGHTERS);
        }

        void clear() {
            cells = 0;
            fighters = 0;
            moment = 0;
            stand = RUNS;
        }

        void addCell(int sort) {
            if (cells < MOST_CELLS) {
                costs[cells] = cells == 0 ? 0 : costs[cells - 1] + costOf(sort);
                sorts[cells] = sort;
                cells++;
            }
        }

        void changeSort(int cell, int sort) {
            if (hasCell(cell)) {
                int more = costOf(sort) - costOf(sorts[cell]);
                sorts[cell] = sort;
                for (int c = cell; c < cells; c++) {
                    costs[c] += more;
                }
            }
        }

        private static int costOf(int sort) {
            return sort + 1;
        }

        int addFighter(int kind, int strength, int pace, int hurt) {
            if (fighters >= MOST_FIGHTERS) {
                return FULL;
            }
            int number = fighters;
            kinds[number] = kind;
            strengths[number] = strength;
            paces[number] = pace;
            hurts[number] = hurt;
            fighters++;
            return number;
        }

        boolean hasCell(int cell) {
            return within(cell, 0, cells - 1);
        }

        boolean exists(int fighter) {
            return within(fighter, 0, fighters - 1);
        }

        boolean isUp(int fighter) {
            return hurts[fighter] < DOWN;
        }

        boolean hasTurned() {
            return stand != RUNS;
        }

        int thoseDown() {
            int down = 0;
            for (int f = 0; f < fighters; f++) {
                if (!isUp(f)) {
                    down |= 1 << f;
                }
            }
            return down;
        }

        int othersUp() {
            int up = 0;
            for (int f = 1; f < fighters; f++) {
                if (isUp(f)) {
                    up++;
                }
            }
            return up;
        }

        int outcome() {
            if (fighters < 2) {
                return NOBODY;
            }
            if (!isUp(0)) {
                return LOST;
            }
            return othersUp() == 0 ? WON : GOES_ON;
        }

        int forceOf(int fighter) {
            return Kinds.force(kinds[fighter], strengths[fighter], hurts[fighter]);
        }

        int pointsOf(int fighter, int hurt, int t) {
            int kind = kinds[fighter];
            return Kinds.pointsIn(kind, Kinds.stride(kind, paces[fighter], hurt), t);
        }

        int cellBy(int points) {
            int cell = 0;
            while (cell + 1 < cells && costs[cell + 1] <= points) {
                cell++;
            }
            return cell;
        }

        int cellRunning(int fighter, int m) {
            return isUp(fighter) ? cellBy(pointsOf(fighter, hurts[fighter], momentsOut(fighter, m))) : 0;
        }

        private int momentsOut(int fighter, int m) {
            return fighter == 0 ? m : Math.max(0, m - start);
        }

        int cellNow(int fighter) {
            if (!hasTurned()) {
                return cellRunning(fighter, moment);
            }
            return fighter == 0 ? stand : cellBehindTurn(fighter);
        }

        /** A wound in the fight takes nobody back; to stay in CELL 0 is for those that were DOWN when he TURNED. */
        private int cellBehindTurn(int fighter) {
            if (coming[fighter] == NEVER) {
                return 0;
            }
            if (coming[fighter] <= moment) {
                return stand;
            }
            // Not yet come it is short of him, and it is as HURT as when he TURNED: no bound is needed.
            return cellBy(pointsOf(fighter, hurts[fighter], momentsOut(fighter, moment)));
        }

        int comingOf(int fighter) {
            return hasTurned() && fighter != 0 && isUp(fighter) ? coming[fighter] : NONE;
        }

        /** CELL 0 costs nothing, so there they are from MOMENT 0 on, whatever START is. */
        int comesTo(int fighter, int cell) {
            int cost = costs[cell];
            if (cost == 0) {
                return 0;
            }
            int kind = kinds[fighter];
            return start + Kinds.momentsFor(kind, Kinds.stride(kind, paces[fighter], hurts[fighter]), cost);
        }

        boolean isCaughtIn(int m) {
            int cell = cellRunning(0, m);
            boolean caught = cell == cells - 1;
            for (int f = 1; f < fighters && !caught; f++) {
                caught = isUp(f) && comesTo(f, cell) <= m;
            }
            return caught;
        }

        /** When he, who runs on from now, TURNS: in t, or CAUGHT ahead of it. */
        int turnMoment(int now, int t) {
            int m = now;
            while (m < t) {
                m++;
                if (isCaughtIn(m)) {
                    return m;
                }
            }
            return m;
        }

        void turnIn(int m) {
            stand = cellRunning(0, m);
            moment = m;
            for (int f = 1; f < fighters; f++) {
                coming[f] = isUp(f) ? comesTo(f, stand) : NEVER;
            }
        }

        /** The first of those that have come, -1 when nobody is there. */
        private int firstThere() {
            int first = -1;
            for (int f = 1; f < fighters; f++) {
                if (isThere(f) && (first < 0 || coming[f] < coming[first])) {
                    first = f;
                }
            }
            return first;
        }

        private boolean isThere(int fighter) {
            return isUp(fighter) && coming[fighter] <= moment;
        }

        private int countThere() {
            int there = 0;
            for (int f = 1; f < fighters; f++) {
                if (isThere(f)) {
                    there++;
                }
            }
            return there;
        }

        static int odds(int runnerForce, int otherForce, int besides) {
            int odds = EVEN + runnerForce - otherForce - 2 * besides;
            if (odds < LEAST_ODDS) {
                return LEAST_ODDS;
            }
            return odds > MOST_ODDS ? MOST_ODDS : odds;
        }

        int fightFirst() {
            int first = firstThere();
            if (first < 0) {
                return NONE;
            }
            int odds = odds(forceOf(0), forceOf(first), countThere() - 1);
            int who = odds > drawOfSixteen() ? first : 0;
            hurts[who]++;
            return who;
        }

        private int drawOfSixteen() {
            draw = (draw * 1103515245 + 12345) & 0x7fffffff;
            return draw / 65536 % 16;
        }

        /** Passes the MOMENTS in which nobody is there: no DRAW is made in them. */
        void waitForNext() {
            int next = NEVER;
            for (int f = 1; f < fighters; f++) {
                if (isUp(f)) {
                    next = Math.min(next, coming[f]);
                }
            }
            moment = Math.max(moment + 1, next);
        }
    }

    /** The latest MOMENTS that may be UNDONE, in a ring. */
    private static final class Past {
        private static final int MOST = 8;

        private int known;
        private int next;
        private final int[] hurts = new int[MOST * MOST_FIGHTERS];
        private final int[] moments = new int[MOST];
        private final int[] stands = new int[MOST];
        private final int[] draws = new int[MOST];

        void forget() {
            known = 0;
        }

        void takeFrom(Past other) {
            known = other.known;
            next = other.next;
            System.arraycopy(other.hurts, 0, hurts, 0, hurts.length);
            System.arraycopy(other.moments, 0, moments, 0, MOST);
            System.arraycopy(other.stands, 0, stands, 0, MOST);
            System.arraycopy(other.draws, 0, draws, 0, MOST);
        }

        void remember(Scene s) {
            System.arraycopy(s.hurts, 0, hurts, next * MOST_FIGHTERS, MOST_FIGHTERS);
            moments[next] = s.moment;
            stands[next] = s.stand;
            draws[next] = s.draw;
            next = (next + 1) % MOST;
            known = Math.min(MOST, known + 1);
        }

        /** When they come is not kept here: the TURN that told it is older, or is undone with it. */
        boolean bringBack(Scene s) {
            if (known == 0) {
                return false;
            }
            known--;
            next = (next + MOST - 1) % MOST;
            System.arraycopy(hurts, next * MOST_FIGHTERS, s.hurts, 0, MOST_FIGHTERS);
            s.moment = moments[next];
            s.stand = stands[next];
            s.draw = draws[next];
            return true;
        }
    }

    /** THE TAPE, and the FIELD that is read from it ahead of anything being changed. */
    private static final class FieldText {
        private static final int END = 0;
        private static final String SORT_SIGNS = "./v", KIND_SIGNS = "pslf";

        private final int[] letters = new int[LETTERS];
        private int length;
        private int at;
        private final Scene draft = new Scene();

        boolean add(int letter) {
            if (length >= LETTERS) {
                return false;
            }
            letters[length] = letter;
            length++;
            return true;
        }

        void setUp(Scene s) {
            draft.start = s.start;
            draft.draw = s.draw;
            s.takeFrom(draft);
        }

        /** Where it can't be read, at is the place of the FAULT. */
        boolean read() {
            at = 0;
            draft.clear();
            if (!readGround()) {
                return false;
            }
            return peek() == END || take(';') && readFighters();
        }

        private boolean readGround() {
            while (draft.cells < MOST_CELLS) {
                int sort = SORT_SIGNS.indexOf((char) peek());
                if (sort < 0 || draft.cells == 0 && sort != PLAIN) {
                    break;
                }
                draft.addCell(sort);
                at++;
            }
            return draft.cells > 0;
        }

        private boolean readFighters() {
            while (draft.fighters < MOST_FIGHTERS) {
                if (!readFighter()) {
                    return false;
                }
                if (peek() == END) {
                    return true;
                }
                // Behind the last FIGHTER that there may be, no comma can stand.
                if (draft.fighters == MOST_FIGHTERS || !take(',')) {
                    return false;
                }
            }
            return false;
        }

        private boolean readFighter() {
            int kind = KIND_SIGNS.indexOf((char) peek());
            if (kind < 0) {
                return false;
            }
            at++;
            int strength = takeDigit(1, 9);
            if (strength < 0) {
                return false;
            }
            int pace = takeDigit(1, 6);
            if (pace < 0) {
                return false;
            }
            int hurt = take('-') ? takeDigit(0, DOWN) : 0;
            if (hurt < 0) {
                return false;
            }
            draft.addFighter(kind, strength, pace, hurt);
            return true;
        }

        /** The letter behind blanks, left where it is. */
        private int peek() {
            while (at < length && letters[at] == ' ') {
                at++;
            }
            return at < length ? letters[at] : END;
        }

        private boolean take(int letter) {
            if (peek() != letter) {
                return false;
            }
            at++;
            return true;
        }

        private int takeDigit(int least, int most) {
            int digit = peek() - '0';
            if (!within(digit, least, most)) {
                return -1;
            }
            at++;
            return digit;
        }
    }

    /** CHANCES by T, on a scene of its own that may be changed to see what would be. */
    private static final class Foretelling {
        // He and all others bear fewer blows than this, and each fight is one.
        private static final int MOST_FIGHTS = 40;

        private final Scene trial = new Scene();
        private final Chances chances = new Chances();
        private final int[] row = new int[FORESEEN];

        void begin(Scene s) {
            trial.takeFrom(s);
            chances.forget();
        }

        int chanceBy(int t) {
            int m = trial.moment;
            if (trial.hasTurned()) {
                chances.takeComing(trial);
            } else {
                m = trial.turnMoment(m, t);
                chances.tellComing(trial, m);
            }
            return chances.chanceFrom(trial, m);
        }

        int chanceTogether() {
            chances.tellAllAtOnce();
            return chances.chanceFrom(trial, trial.moment);
        }

        /** CHANCES by T now, 1 more, .., n of them: the most; behind T in which he is CAUGHT all are like it. */
        int foresee(int n) {
            int most = 0;
            int chance = 0;
            boolean caught = false;
            for (int k = 0; k < n && k < FORESEEN; k++) {
                if (!caught) {
                    int m = trial.moment + k;
                    chances.tellComing(trial, m);
                    chance = chances.chanceFrom(trial, m);
                    caught = k > 0 && trial.isCaughtIn(m);
                }
                row[k] = chance;
                most = Math.max(most, chance);
            }
            return most;
        }

        int foreseen(int k) {
            return within(k, 0, FORESEEN - 1) ? row[k] : 0;
        }

        /** Of what was foreseen last. */
        int firstWith(int chance) {
            for (int k = 0; k < FORESEEN; k++) {
                if (row[k] >= chance) {
                    return trial.moment + k;
                }
            }
            return NONE;
        }

        int lastWith(int chance) {
            for (int k = FORESEEN - 1; k >= 0; k--) {
                if (row[k] >= chance) {
                    return trial.moment + k;
                }
            }
            return NONE;
        }

        void suppose(int cell, int sort) {
            trial.changeSort(cell, sort);
        }

        void supposeHurt(int fighter, int hurt) {
            if (trial.exists(fighter)) {
                trial.hurts[fighter] = hurt;
                chances.forget();
            }
        }

        /** How many of n runs from s he wins; THE DRAW of s goes on. */
        int winsOf(Scene s, int t, int n) {
            if (!trial.hasTurned()) {
                trial.turnIn(trial.turnMoment(trial.moment, t));
            }
            int from = trial.moment;
            int wins = 0;
            for (int k = 0; k < n; k++) {
                trial.takeHurts(s);
                trial.moment = from;
                if (winsOne()) {
                    wins++;
                }
            }
            s.draw = trial.draw;
            return wins;
        }

        private boolean winsOne() {
            for (int k = 0; k < MOST_FIGHTS && trial.outcome() == GOES_ON; k++) {
                trial.waitForNext();
                trial.fightFirst();
            }
            return trial.outcome() == WON;
        }
    }

    /**
     * CHANCE of the fights once he stands. He fights the others one behind the other, so how the
     * fight is going is told by his HURT and by the BLOWS that they, all together, have had; when
     * they come matters only by the order and the waits between them.
     */
    private static final class Chances {
        private static final int MOST_OTHERS = MOST_FIGHTERS - 1, MOST_BLOWS = MOST_OTHERS * DOWN;
        private static final int WIDTH = MOST_BLOWS + 1;
        // Fewer fights than this end it, so a longer wait for the next one makes no difference.
        private static final int LONGEST_WAIT = 31;
        private static final int PLACES = 128, NO_KEY = -1;

        private int others;
        private final int[] order = new int[MOST_OTHERS];
        private final int[] coming = new int[MOST_FIGHTERS];
        private final int[] waits = new int[MOST_OTHERS];
        // begins[j]: how many blows have fallen when he begins to fight the j-th; then all of them.
        private final int[] begins = new int[MOST_OTHERS + 1];
        private final int[] idle = new int[MOST_OTHERS];
        private final int[] turnAt = new int[MOST_BLOWS];
        private final int[] forceAt = new int[MOST_BLOWS];
        private final int[] runnerForces = new int[DOWN];
        private final int[] values = new int[(DOWN + 1) * WIDTH];
        private final int[] keys = new int[PLACES];
        private final int[] known = new int[PLACES];

        /** What is known holds for one set of HURTS only. */
        void forget() {
            for (int k = 0; k < PLACES; k++) {
                keys[k] = NO_KEY;
            }
        }

        void takeComing(Scene s) {
            System.arraycopy(s.coming, 0, coming, 0, MOST_FIGHTERS);
        }

        /** When they come, if he TURNS in m. */
        void tellComing(Scene s, int m) {
            int cell = s.cellRunning(0, m);
            for (int f = 1; f < s.fighters; f++) {
                coming[f] = s.comesTo(f, cell);
            }
        }

        void tellAllAtOnce() {
            for (int f = 1; f < MOST_FIGHTERS; f++) {
                coming[f] = 0;
            }
        }

        /** He stands from m on, and they come as told. */
        int chanceFrom(Scene s, int m) {
            putInOrder(s);
            if (others == 0) {
                return MILLION;
            }
            if (!s.isUp(0)) {
                return 0;
            }
            tellWaits(m);
            int key = keyOf();
            int place = (key ^ key >> 7 ^ key >> 14 ^ key >> 21) & (PLACES - 1);
            if (keys[place] != key) {
                keys[place] = key;
                known[place] = foldBack(s);
            }
            return known[place];
        }

        private void putInOrder(Scene s) {
            others = 0;
            for (int f = 1; f < s.fighters; f++) {
                if (s.isUp(f)) {
                    int at = others;
                    while (at > 0 && coming[order[at - 1]] > coming[f]) {
                        order[at] = order[at - 1];
                        at--;
                    }
                    order[at] = f;
                    others++;
                }
            }
        }

        /** waits[j]: how many MOMENTS behind the last one without a fight the j-th comes. */
        private void tellWaits(int m) {
            int base = Math.max(m, coming[order[0]] - 1);
            int before = 0;
            waits[0] = 0;
            for (int j = 1; j < others; j++) {
                int wait = Math.max(0, coming[order[j]] - 1 - base);
                waits[j] = waits[j - 1] + Math.min(LONGEST_WAIT, wait - before);
                before = wait;
            }
        }

        private int keyOf() {
            int key = 0;
            for (int j = 0; j < others; j++) {
                int since = j == 0 ? 0 : waits[j] - waits[j - 1];
                key = key << 7 | since << 2 | order[j] - 1;
            }
            return key;
        }

        private int foldBack(Scene s) {
            tellForces(s);
            tellIdle();
            int first = s.hurts[0];
            settleEnds(first);
            int last = waits[others - 1];
            for (int j = others - 1; j >= 0; j--) {
                for (int b = begins[j + 1] - 1; b >= begins[j]; b--) {
                    int least = leastHurt(first, last, j, b);
                    for (int h = DOWN - 1; h >= least; h--) {
                        fold(h, b, others);
                    }
                }
            }
            for (int m = last - 1; m >= 0; m--) {
                foldMoment(m, first);
            }
            return values[first * WIDTH];
        }

        private void tellForces(Scene s) {
            int blows = 0;
            for (int j = 0; j < others; j++) {
                int f = order[j];
                begins[j] = blows;
                for (int h = s.hurts[f]; h < DOWN; h++) {
                    turnAt[blows] = j;
                    forceAt[blows] = Kinds.force(s.kinds[f], s.strengths[f], h);
                    blows++;
                }
            }
            begins[others] = blows;
            for (int h = s.hurts[0]; h < DOWN; h++) {
                runnerForces[h] = Kinds.force(s.kinds[0], s.strengths[0], h);
            }
        }

        /** idle[j]: the most MOMENTS without a fight ahead of the j-th; waits begin when those ahead are DOWN. */
        private void tellIdle() {
            int most = 0;
            for (int j = 0; j < others; j++) {
                most = Math.max(most, waits[j] - begins[j]);
                idle[j] = most;
            }
        }

        private void settleEnds(int first) {
            int blows = begins[others];
            for (int b = 0; b < blows; b++) {
                values[DOWN * WIDTH + b] = 0;
            }
            for (int h = first; h < DOWN; h++) {
                values[h * WIDTH + blows] = MILLION;
            }
        }

        /** By MOMENT m there were m fights, less the idle ones; less HURT than that he can't be. */
        private int leastHurt(int first, int m, int j, int b) {
            return Math.max(first, first + m - idle[j] - b);
        }

        /** Upwards, as each value is made of the later ones as they are behind the MOMENT. */
        private void foldMoment(int m, int first) {
            int there = countThere(m);
            for (int j = 0; j < there; j++) {
                int least = Math.max(begins[j], m - idle[j] - (DOWN - 1 - first));
                int most = Math.min(begins[j + 1] - 1, m);
                for (int b = least; b <= most; b++) {
                    int last = Math.min(DOWN - 1, first + m - b);
                    for (int h = leastHurt(first, m, j, b); h <= last; h++) {
                        fold(h, b, there);
                    }
                }
            }
        }

        private int countThere(int m) {
            int there = 1;
            while (there < others && waits[there] <= m) {
                there++;
            }
            return there;
        }

        private void fold(int h, int b, int there) {
            int odds = Scene.odds(runnerForces[h], forceAt[b], there - 1 - turnAt[b]);
            int at = h * WIDTH + b;
            values[at] = (odds * values[at + 1] + (16 - odds) * values[at + WIDTH]) / 16;
        }
    }

    /** Nothing, or a row of a LANE; its items are kept as longs that the LANE can hold. */
    private static final class Sheet {
        private static final int NO_LANE = -1;

        private int lane = NO_LANE;
        private int size;
        private final long[] items = new long[ITEMS];

        void hold(int newLane, int n) {
            lane = newLane;
            size = n;
            for (int i = 0; i < ITEMS; i++) {
                items[i] = 0;
            }
        }

        void dropAll() {
            lane = NO_LANE;
        }

        boolean isThere() {
            return lane != NO_LANE;
        }

        boolean holds(int i, int n) {
            return i >= 0 && n >= 0 && n <= size && i <= size - n;
        }

        /** 0, or why n items from i on can't be taken as a row of that LANE. */
        int refusal(int asLane, int i, int n) {
            if (!isThere()) {
                return NULL;
            }
            if (lane != asLane) {
                return CAST;
            }
            return holds(i, n) ? 0 : INDEX;
        }

        long itemAt(int i) {
            return holds(i, 1) ? items[i] : 0;
        }

        void put(int i, long v) {
            if (holds(i, 1)) {
                items[i] = lowestBits(v);
            }
        }

        private long lowestBits(long v) {
            switch (lane) {
                case 0: return (byte) v;
                case 1: return (short) v;
                case 2: return (int) v;
                default: return v;
            }
        }
    }
}
