import java.util.ArrayDeque;
import java.util.ArrayList;
import java.util.Arrays;
import java.util.HashMap;
import java.util.List;
import java.util.Map;

/**
 * The document once more, as literally and as slowly as it can be said: every MOMENT is walked
 * through, nothing is skipped, nothing is worked out by a formula that the document does not have.
 */
final class Model {
    static final class Man {
        int kind, strength, pace, hurt;

        Man(int kind, int strength, int pace, int hurt) {
            this.kind = kind;
            this.strength = strength;
            this.pace = pace;
            this.hurt = hurt;
        }

        Man again() {
            return new Man(kind, strength, pace, hurt);
        }
    }

    static final class World {
        List<Integer> ground = new ArrayList<>(List.of(0));
        List<Man> men = new ArrayList<>();
        int start, moment, cell = -1;
        int[] come = new int[5];
        long draw = 1;
        boolean together;
        ArrayDeque<World> past = new ArrayDeque<>();

        World again() {
            World w = new World();
            w.ground = new ArrayList<>(ground);
            for (Man m : men) {
                w.men.add(m.again());
            }
            w.start = start;
            w.moment = moment;
            w.cell = cell;
            w.come = come.clone();
            w.draw = draw;
            w.together = together;
            return w;
        }

        World withPast() {
            World w = again();
            w.past = new ArrayDeque<>(past);
            return w;
        }

        int cost(int c) {
            int sum = 0;
            for (int k = 1; k <= c; k++) {
                sum += new int[] {1, 2, 3}[ground.get(k)];
            }
            return sum;
        }

        int where(int points) {
            int c = 0;
            for (int k = 0; k < ground.size(); k++) {
                if (cost(k) <= points) {
                    c = k;
                }
            }
            return c;
        }

        /** POINTS of the one numbered f in MOMENT m, from MOMENT 0 on. */
        int pointsAt(int f, int m) {
            if (f == 0) {
                return points(men.get(0), men.get(0).hurt, m);
            }
            if (!together) {
                return points(men.get(f), men.get(f).hurt, Math.max(0, m - start));
            }
            int fewest = Integer.MAX_VALUE;
            for (int g = 1; g < men.size(); g++) {
                if (men.get(g).hurt < 6) {
                    fewest = Math.min(fewest, points(men.get(g), men.get(g).hurt, Math.max(0, m - start)));
                }
            }
            return fewest;
        }

        int cellRunning(int f, int m) {
            return men.get(f).hurt == 6 ? 0 : where(pointsAt(f, m));
        }

        int comes(int f, int c) {
            int m = 0;
            while (pointsAt(f, m) < cost(c)) {
                m++;
            }
            return m;
        }

        boolean caught(int m) {
            int c = cellRunning(0, m);
            if (c == ground.size() - 1) {
                return true;
            }
            for (int f = 1; f < men.size(); f++) {
                if (men.get(f).hurt < 6 && pointsAt(f, m) >= cost(c)) {
                    return true;
                }
            }
            return false;
        }

        void turn() {
            cell = cellRunning(0, moment);
            for (int f = 1; f < men.size(); f++) {
                come[f] = men.get(f).hurt == 6 ? -4 : comes(f, cell);
            }
        }

        int state() {
            if (men.size() < 2) {
                return 3;
            }
            if (men.get(0).hurt == 6) {
                return 2;
            }
            for (int f = 1; f < men.size(); f++) {
                if (men.get(f).hurt < 6) {
                    return 0;
                }
            }
            return 1;
        }

        /** Those there in THE MOMENT, the one that came first first. */
        List<Integer> there() {
            List<Integer> list = new ArrayList<>();
            for (int f = 1; f < men.size(); f++) {
                if (men.get(f).hurt < 6 && come[f] <= moment) {
                    list.add(f);
                }
            }
            list.sort((a, b) -> come[a] != come[b] ? come[a] - come[b] : a - b);
            return list;
        }

        int odds(List<Integer> there) {
            int odds = 8 + force(men.get(0)) - force(men.get(there.get(0))) - 2 * (there.size() - 1);
            return odds < 1 ? 1 : odds > 15 ? 15 : odds;
        }

        /** A MOMENT; t is that in which he TURNS by himself, if he does. */
        int step() {
            moment++;
            if (cell < 0) {
                if (caught(moment)) {
                    turn();
                }
                return -4;
            }
            List<Integer> there = there();
            if (there.isEmpty()) {
                return -4;
            }
            draw = (draw * 1103515245L + 12345L) % 2147483648L;
            int who = odds(there) > draw / 65536 % 16 ? there.get(0) : 0;
            men.get(who).hurt++;
            return who;
        }

        void runTo(int t) {
            while (cell < 0) {
                if (moment >= t) {
                    turn();
                } else {
                    step();
                }
            }
        }

        long chance(Map<List<Integer>, Long> memo) {
            if (state() == 1) {
                return 1000000;
            }
            if (state() == 2) {
                return 0;
            }
            List<Integer> key = new ArrayList<>(List.of(moment));
            for (Man m : men) {
                key.add(m.hurt);
            }
            Long known = memo.get(key);
            if (known != null) {
                return known;
            }
            long value = chanceBehind(memo);
            memo.put(key, value);
            return value;
        }

        private long chanceBehind(Map<List<Integer>, Long> memo) {
            moment++;
            List<Integer> there = there();
            long value;
            if (there.isEmpty()) {
                value = chance(memo);
            } else {
                int odds = odds(there);
                Man other = men.get(there.get(0));
                other.hurt++;
                long won = chance(memo);
                other.hurt--;
                men.get(0).hurt++;
                long lost = chance(memo);
                men.get(0).hurt--;
                value = (odds * won + (16 - odds) * lost) / 16;
            }
            moment--;
            return value;
        }

        int chanceBy(int t) {
            World w = again();
            if (w.state() == 0) {
                w.runTo(t);
            }
            return (int) w.chance(new HashMap<>());
        }

        boolean caughtAheadOf(int t) {
            World w = again();
            if (w.state() == 0) {
                w.runTo(t);
            }
            return w.moment < t;
        }

        /** {T, how much}. */
        int[] best() {
            int[] best = {0, -1};
            // Once he is caught ahead of T, all later ones are like it; that saves most of the time.
            for (int t = moment; t <= moment + 60 && !caughtAheadOf(t); t++) {
                int c = chanceBy(t);
                if (c > best[1]) {
                    best = new int[] {t, c};
                }
            }
            return best;
        }
    }

    static int plain(int pace, int hurt) {
        int v = pace - hurt / 2;
        return v < 1 ? 1 : v;
    }

    static int points(Man m, int hurt, int t) {
        int sum = 0;
        switch (m.kind) {
            case 0: return t * plain(m.pace, hurt);
            case 1: return t * plain(m.pace > 1 ? m.pace - 1 : 1, hurt);
            case 2: return t * plain(m.pace, hurt) / 2;
            default:
                for (int k = 7; k <= t; k++) {
                    sum += plain(m.pace, hurt);
                }
                return sum + (t < 6 ? t : 6) * plain(m.pace, hurt) / 2;
        }
    }

    static int force(Man m) {
        int v = m.strength - m.hurt / 2;
        if (v < 1) {
            v = 1;
        }
        return m.kind == 1 ? v + 2 : v;
    }

    World w = new World();
    World image;
    String tape = "";
    long[][] sheets = new long[4][];
    int[] lanes = new int[4];

    static boolean in(long v, long a, long b) {
        return v >= a && v <= b;
    }

    boolean man(int f) {
        return in(f, 0, w.men.size() - 1);
    }

    int fighter(int kind, int strength, int pace) {
        if (!in(kind, 0, 3) || !in(strength, 1, 9) || !in(pace, 1, 6)) {
            return -1;
        }
        if (w.cell >= 0) {
            return -2;
        }
        if (w.men.size() == 5) {
            return -3;
        }
        w.men.add(new Man(kind, strength, pace, 0));
        w.past.clear();
        return w.men.size() - 1;
    }

    int of(int f, int what) {
        if (!man(f) || !in(what, 0, 6)) {
            return -1;
        }
        Man m = w.men.get(f);
        if (what < 4) {
            return new int[] {m.kind, m.strength, m.pace, m.hurt}[what];
        }
        if (what == 4) {
            return force(m);
        }
        if (what == 5) {
            if (w.cell < 0) {
                return w.cellRunning(f, w.moment);
            }
            if (f == 0) {
                return w.cell;
            }
            boolean wasDownThen = w.come[f] == -4;
            boolean hasCome = !wasDownThen && w.come[f] <= w.moment;
            if (hasCome) {
                return w.cell;
            }
            return wasDownThen ? 0 : Math.min(w.cell, w.where(w.pointsAt(f, w.moment)));
        }
        return w.cell < 0 || f == 0 || m.hurt == 6 ? -4 : w.come[f];
    }

    int hurt(int f, int v) {
        if (!man(f) || !in(v, 0, 6)) {
            return -1;
        }
        if (w.cell >= 0) {
            return -2;
        }
        int was = w.men.get(f).hurt;
        w.men.get(f).hurt = v;
        return was;
    }

    int start(int v) {
        if (!in(v, 0, 20)) {
            return -1;
        }
        if (w.moment != 0) {
            return -2;
        }
        int was = w.start;
        w.start = v;
        return was;
    }

    int sort(int c) {
        return in(c, 0, w.ground.size() - 1) ? w.ground.get(c) : -1;
    }

    int cost(int c) {
        return in(c, 0, w.ground.size() - 1) ? w.cost(c) : -1;
    }

    int points(int f, int t) {
        return man(f) && in(t, 0, 400) ? points(w.men.get(f), w.men.get(f).hurt, t) : -1;
    }

    int type(int letter) {
        if (!in(letter, 32, 126)) {
            return -1;
        }
        if (tape.length() == 100) {
            return -3;
        }
        tape += (char) letter;
        return tape.length();
    }

    /** How much of the text without blanks could begin a FIELD; found by trying, not by reading. */
    int field() {
        String all = tape;
        tape = "";
        String dense = all.replace(" ", "");
        String ground = "\\.[./v]{0,39}";
        String man = "[pslf][1-9][1-6](-[0-6])?";
        if (!dense.matches(ground + "(;" + man + "(," + man + "){0,4})?")) {
            return -20 - placeOfFault(all, dense, ground, man);
        }
        String[] parts = dense.split(";");
        World fresh = new World();
        fresh.ground.clear();
        for (char c : parts[0].toCharArray()) {
            fresh.ground.add("./v".indexOf(c));
        }
        if (parts.length > 1) {
            for (String m : parts[1].split(",")) {
                fresh.men.add(new Man("pslf".indexOf(m.charAt(0)), m.charAt(1) - '0', m.charAt(2) - '0',
                    m.length() > 3 ? m.charAt(4) - '0' : 0));
            }
        }
        fresh.start = w.start;
        fresh.draw = w.draw;
        w = fresh;
        return w.men.size();
    }

    private static int placeOfFault(String all, String dense, String ground, String man) {
        String begun = "([pslf]([1-9]([1-6](-[0-6]?)?)?)?)?";
        String partly = "(" + ground + "(;(" + man + ",){0,4}" + begun + ")?)?";
        int good = 0;
        while (good < dense.length() && dense.substring(0, good + 1).matches(partly)) {
            good++;
        }
        int seen = 0;
        for (int k = 0; k < all.length(); k++) {
            if (all.charAt(k) != ' ') {
                if (seen == good) {
                    return k;
                }
                seen++;
            }
        }
        return all.length();
    }

    int count(int what) {
        int down = 0;
        for (int f = 0; f < w.men.size(); f++) {
            if (w.men.get(f).hurt == 6) {
                down += 1 << f;
            }
        }
        switch (what) {
            case 0: return w.ground.size();
            case 1: return w.men.size();
            case 2: return w.moment;
            case 3: return w.cell >= 0 ? 1 : 0;
            case 4: return w.cell >= 0 ? w.cell : -4;
            case 5: return w.past.size();
            case 6: return down;
            case 7: return w.state();
            default: return -1;
        }
    }

    int moment() {
        if (w.state() != 0) {
            return -2;
        }
        if (w.moment == 400) {
            return -3;
        }
        w.past.addLast(w.again());
        if (w.past.size() > 8) {
            w.past.removeFirst();
        }
        return w.step();
    }

    int turn() {
        if (w.cell >= 0 || w.state() != 0) {
            return -2;
        }
        w.turn();
        return w.cell;
    }

    int undo() {
        if (w.past.isEmpty()) {
            return -4;
        }
        World then = w.past.removeLast();
        for (int f = 0; f < w.men.size(); f++) {
            w.men.get(f).hurt = then.men.get(f).hurt;
        }
        w.moment = then.moment;
        w.cell = then.cell;
        w.come = then.come.clone();
        w.draw = then.draw;
        return w.past.size();
    }

    int seed(int v) {
        if (v < 0) {
            return -1;
        }
        int was = (int) w.draw;
        w.draw = v;
        return was;
    }

    int chance(int t) {
        return !in(t, 0, 400) ? -1 : w.state() != 0 ? -2 : w.chanceBy(t);
    }

    boolean still() {
        return w.state() == 0 && w.cell < 0;
    }

    int best(int what) {
        return !in(what, 0, 1) ? -1 : !still() ? -2 : w.best()[what];
    }

    int late(int chance) {
        if (!in(chance, 0, 1000000)) {
            return -1;
        }
        if (!still()) {
            return -2;
        }
        int late = -4;
        for (int t = w.moment; t <= w.moment + 60; t++) {
            if (w.chanceBy(t) >= chance) {
                late = t;
            }
        }
        return late;
    }

    int together(int t, int what) {
        if (!in(t, 0, 400) || !in(what, 0, 2)) {
            return -1;
        }
        if (!still()) {
            return -2;
        }
        World all = w.again();
        all.together = true;
        if (what == 0) {
            return all.chanceBy(t);
        }
        int most = all.best()[1];
        return what == 1 ? most : most < w.best()[1] ? 1 : 0;
    }

    int ditched() {
        if (!still()) {
            return -2;
        }
        int most = w.best()[1];
        int found = -4;
        for (int c = 1; c < w.ground.size(); c++) {
            if (w.ground.get(c) == 0) {
                World other = w.again();
                other.ground.set(c, 2);
                int chance = other.best()[1];
                if (chance > most) {
                    most = chance;
                    found = c;
                }
            }
        }
        return found;
    }

    int ahead(int what) {
        if (!in(what, 0, 1)) {
            return -1;
        }
        if (!still()) {
            return -2;
        }
        int[] found = {-4, -1};
        for (int f = 1; f < w.men.size(); f++) {
            if (w.men.get(f).hurt < 6) {
                World other = w.again();
                other.men.get(f).hurt++;
                int chance = other.best()[1];
                if (chance > found[1]) {
                    found = new int[] {f, chance};
                }
            }
        }
        return found[what];
    }

    int fields(int t, int n) {
        if (!in(t, 0, 400) || !in(n, 1, 90)) {
            return -1;
        }
        if (w.state() != 0) {
            return -2;
        }
        int wins = 0;
        for (int k = 0; k < n; k++) {
            World run = w.again();
            run.runTo(t);
            while (run.state() == 0) {
                run.step();
            }
            wins += run.state() == 1 ? 1 : 0;
            w.draw = run.draw;
        }
        return wins;
    }

    int image() {
        image = w.withPast();
        return 1;
    }

    int restore() {
        if (image == null) {
            return -4;
        }
        w = image.withPast();
        return 1;
    }

    private int refuse(int sheet, int lane, int i, int n) {
        if (sheets[sheet] == null) {
            return -11;
        }
        if (lanes[sheet] != lane) {
            return -12;
        }
        return i < 0 || (long) i + n > sheets[sheet].length ? -13 : 0;
    }

    int strides(int f, int sheet, int lane, int i, int n) {
        if (!man(f) || !in(sheet, 0, 3) || !in(lane, 0, 3) || !in(n, 1, 8)) {
            return -1;
        }
        int refused = refuse(sheet, lane, i, 2 * n);
        if (refused != 0) {
            return refused;
        }
        for (int k = i; k < i + 2 * n; k += 2) {
            if (!in(sheets[sheet][k], 0, 400) || !in(sheets[sheet][k + 1], 0, w.ground.size() - 1)) {
                return -2;
            }
        }
        int set = 0;
        for (int h = 0; h < 6; h++) {
            boolean so = true;
            for (int k = i; k < i + 2 * n; k += 2) {
                so &= w.where(points(w.men.get(f), h, (int) sheets[sheet][k])) == sheets[sheet][k + 1];
            }
            set += so ? 1 << h : 0;
        }
        return set;
    }

    int far(int sheet, int lane, int i, int what) {
        if (!in(sheet, 0, 3) || !in(lane, 0, 3) || !in(what, 0, 1)) {
            return -1;
        }
        List<Integer> up = new ArrayList<>();
        for (int f = 1; f < w.men.size(); f++) {
            if (w.men.get(f).hurt < 6) {
                up.add(f);
            }
        }
        int refused = refuse(sheet, lane, i, up.size());
        if (refused != 0) {
            return refused;
        }
        List<Integer> fit = new ArrayList<>();
        for (int t = 0; t <= 60 && !w.men.isEmpty(); t++) {
            boolean so = true;
            for (int k = 0; k < up.size(); k++) {
                so &= w.comes(up.get(k), w.cellRunning(0, t)) == sheets[sheet][i + k];
            }
            if (so) {
                fit.add(t);
            }
            if (t > 0 && w.caught(t)) {
                break;
            }
        }
        return what == 0 ? fit.size() : fit.isEmpty() ? -4 : fit.get(0);
    }

    int film(int n, int sheet, int lane, int i) {
        if (!in(n, 1, 24) || !in(sheet, 0, 3) || !in(lane, 0, 3)) {
            return -1;
        }
        if (!still()) {
            return -2;
        }
        int refused = refuse(sheet, lane, i, n);
        if (refused != 0) {
            return refused;
        }
        for (int k = 0; k < n; k++) {
            sheets[sheet][i + k] = cut(lane, w.chanceBy(w.moment + k));
        }
        return n;
    }

    static long cut(int lane, long v) {
        int bits = new int[] {56, 48, 32, 0}[lane];
        return v << bits >> bits;
    }

    int sheet(int sheet, int lane, int n) {
        if (!in(sheet, 0, 3) || !in(lane, 0, 3) || n > 24) {
            return -1;
        }
        if (n < 0) {
            return -14;
        }
        sheets[sheet] = new long[n];
        lanes[sheet] = lane;
        return n;
    }

    int drop(int sheet) {
        if (!in(sheet, 0, 3)) {
            return -1;
        }
        if (sheets[sheet] == null) {
            return -11;
        }
        int had = sheets[sheet].length;
        sheets[sheet] = null;
        return had;
    }

    int item(int sheet, int lane, int i, long v) {
        if (!in(sheet, 0, 3) || !in(lane, 0, 3)) {
            return -1;
        }
        int refused = refuse(sheet, lane, i, 1);
        if (refused != 0) {
            return refused;
        }
        sheets[sheet][i] = cut(lane, v);
        return 1;
    }

    int copy(int from, int i, int to, int j, int n) {
        if (!in(from, 0, 3) || !in(to, 0, 3)) {
            return -1;
        }
        if (sheets[from] == null || sheets[to] == null) {
            return -11;
        }
        if (lanes[from] != lanes[to]) {
            return -12;
        }
        if (n < 0 || refuse(from, lanes[from], i, n) != 0 || refuse(to, lanes[to], j, n) != 0) {
            return -13;
        }
        long[] taken = Arrays.copyOfRange(sheets[from], i, i + n);
        for (int k = 0; k < n; k++) {
            sheets[to][j + k] = taken[k];
        }
        return n;
    }
}
