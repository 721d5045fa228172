import java.util.Random;

/** Runs of drawn calls (the same ones each time) on the class and on the model; more of them by an argument. */
public final class AgainstModelTest {
    /** What an object answers behind its 512th call is free. */
    private static final int RUNS = 400, CALLS = 200, LAST_CALL = 512;

    private final Random draws;
    private final RunningThree x = new RunningThree();
    private final Model y = new Model();
    private final StringBuilder told = new StringBuilder();
    private int calls = 0;

    private AgainstModelTest(long seed) {
        draws = new Random(seed);
    }

    public static void main(String[] args) {
        int runs = args.length > 0 ? Integer.parseInt(args[0]) : RUNS;
        for (int run = 0; run < runs && Check.wrongSoFar() < 5; run++) {
            new AgainstModelTest(run).go(run);
        }
        Check.end("AgainstModelTest");
    }

    private void go(int run) {
        boolean dear = run % 4 == 0;
        for (int k = 0; k < 4; k++) {
            sheetOrDrop(k, 24);
        }
        for (int k = 0; k < CALLS && calls < LAST_CALL; k++) {
            int before = Check.wrongSoFar();
            if (k == 0 || y.count(7) != 0 && to(5) == 0) {
                setUp(!dear);
            }
            call(dear);
            if (Check.wrongSoFar() > before) {
                System.out.println("in run " + run + " behind: " + told);
                return;
            }
        }
    }

    private int to(int n) {
        return draws.nextInt(n);
    }

    /** Mostly as told, now and then just beyond it. */
    private int about(int least, int most) {
        return to(12) == 0 ? (to(2) == 0 ? least - 1 : most + 1) : least + to(most - least + 1);
    }

    private void same(String call, long got, long want) {
        told.append(call).append(' ');
        calls++;
        if (calls <= LAST_CALL) {
            Check.due(call, got, want);
        }
    }

    private void setUp(boolean large) {
        typeText(text(large ? 40 : 14));
        same("field()", x.field(), y.field());
        int v = to(2) == 0 ? 0 : to(21);
        same("start(" + v + ")", x.start(v), y.start(v));
    }

    private String text(int cells) {
        StringBuilder text = new StringBuilder(".");
        int n = to(cells);
        for (int k = 0; k < n; k++) {
            text.append("...../v".charAt(to(7)));
        }
        int men = to(8) == 0 ? to(6) : 2 + to(4);
        int weak = to(6);
        for (int k = 0; k < men; k++) {
            text.append(k == 0 ? ';' : ',').append("pslf".charAt(to(4)));
            text.append(k == 0 ? 1 + Math.max(to(9), to(9)) : 1 + to(9)).append(1 + to(6));
            if (to(3) > 0) {
                text.append('-').append(k == 0 ? to(3) : Math.min(6, weak + to(3)));
            }
        }
        return text.toString();
    }

    private void typeText(String text) {
        for (int k = 0; k < text.length(); k++) {
            int c = text.charAt(k);
            same("type(" + c + ")", x.type(c), y.type(c));
        }
    }

    private void spoiltField() {
        StringBuilder text = new StringBuilder(text(to(4) == 0 ? 44 : 8));
        int times = to(4);
        for (int k = 0; k < times; k++) {
            int at = to(text.length() + 1);
            if (to(2) == 0) {
                text.insert(at, "  .v/;,pslf-0169 x".charAt(to(18)));
            } else if (at < text.length() && text.length() > 1) {
                text.deleteCharAt(at);
            }
        }
        typeText(text.toString());
        same("field()", x.field(), y.field());
    }

    private void call(boolean dear) {
        int pick = to(100);
        if (pick < (dear ? 12 : 22)) {
            moments();
        } else if (pick < (dear ? 26 : 48)) {
            asks();
        } else if (pick < (dear ? 36 : 58)) {
            changes();
        } else if (pick < 76) {
            foretold(dear);
        } else {
            sheets();
        }
    }

    private void moments() {
        switch (to(8)) {
            case 0:
                if (to(2) == 0) {
                    same("turn()", x.turn(), y.turn());
                }
                return;
            case 1: same("undo()", x.undo(), y.undo()); return;
            default: same("moment()", x.moment(), y.moment()); return;
        }
    }

    private void asks() {
        int f = about(0, 4);
        int w = about(0, 7);
        int c = about(0, 39);
        int t = about(0, to(3) == 0 ? 400 : 20);
        switch (to(5)) {
            case 0: same("of(" + f + ", " + w + ")", x.of(f, w), y.of(f, w)); return;
            case 1: same("count(" + w + ")", x.count(w), y.count(w)); return;
            case 2: same("sort(" + c + ")", x.sort(c), y.sort(c)); return;
            case 3: same("cost(" + c + ")", x.cost(c), y.cost(c)); return;
            default: same("points(" + f + ", " + t + ")", x.points(f, t), y.points(f, t)); return;
        }
    }

    private void changes() {
        int f = about(0, 4);
        int k = about(0, 3);
        int s = about(1, 9);
        int p = about(1, 6);
        int h = about(0, 6);
        int b = about(0, 20);
        switch (to(8)) {
            case 0: same("fighter(" + k + ", " + s + ", " + p + ")", x.fighter(k, s, p), y.fighter(k, s, p)); return;
            case 1:
            case 2: same("hurt(" + f + ", " + h + ")", x.hurt(f, h), y.hurt(f, h)); return;
            case 3: same("start(" + b + ")", x.start(b), y.start(b)); return;
            case 4:
                int v = to(5) == 0 ? -1 - to(9) : draws.nextInt() & 0x7fffffff;
                same("seed(" + v + ")", x.seed(v), y.seed(v));
                return;
            case 5: same("image()", x.image(), y.image()); return;
            case 6:
                if (to(3) == 0) {
                    same("restore()", x.restore(), y.restore());
                }
                return;
            default: spoiltField(); return;
        }
    }

    private void foretold(boolean dear) {
        int t = about(0, to(3) == 0 ? 400 : 25);
        int n = about(1, 90);
        int w = about(0, 1);
        int v = about(0, 2);
        int c = to(9) == 0 ? about(0, 1000000) : to(2) == 0 ? to(1000) : to(1000001);
        switch (to(dear ? 9 : 4)) {
            case 0:
            case 1: same("chance(" + t + ")", x.chance(t), y.chance(t)); return;
            case 2: same("fields(" + t + ", " + n + ")", x.fields(t, n), y.fields(t, n)); return;
            case 3:
                same("best(" + w + ")", x.best(w), y.best(w));
                return;
            case 4: same("late(" + c + ")", x.late(c), y.late(c)); return;
            case 5:
            case 6: same("together(" + t + ", " + v + ")", x.together(t, v), y.together(t, v)); return;
            case 7:
                same("ditched()", x.ditched(), y.ditched());
                return;
            default: same("ahead(" + w + ")", x.ahead(w), y.ahead(w)); return;
        }
    }

    private int laneOf(int sheet) {
        return to(10) > 0 && sheet >= 0 && sheet < 4 ? y.lanes[sheet] : about(0, 3);
    }

    private void sheets() {
        int s = about(0, 3);
        int r = to(6) == 0 ? about(0, 3) : s;
        int l = laneOf(s);
        int i = to(4) > 0 ? to(3) : about(0, 24);
        int j = to(4) > 0 ? to(3) : about(0, 24);
        int n = to(2) == 0 ? to(4) : about(0, 24);
        switch (to(9)) {
            case 0: sheetOrDrop(s, n); return;
            case 1:
            case 2: same("copy(" + s + ", " + i + ", " + r + ", " + j + ", " + n + ")", x.copy(s, i, r, j, n), y.copy(s, i, r, j, n)); return;
            case 3: item(s, l, i, to(2) == 0 ? to(30) : draws.nextLong()); return;
            case 4:
                int f = to(2) == 0 ? 24 : to(5);
                same("film(" + f + ", " + s + ", " + l + ", " + i + ")", x.film(f, s, l, i), y.film(f, s, l, i));
                return;
            case 5:
            case 6: seen(s, l, i); return;
            default: come(s, l, i); return;
        }
    }

    private void sheetOrDrop(int s, int n) {
        if (to(8) == 0) {
            same("drop(" + s + ")", x.drop(s), y.drop(s));
        } else {
            int lane = about(0, 3);
            int size = to(3) == 0 ? n : 24;
            same("sheet(" + s + ", " + lane + ", " + size + ")", x.sheet(s, lane, size), y.sheet(s, lane, size));
        }
    }

    private void item(int s, int l, int i, long v) {
        same("item(" + s + ", " + l + ", " + i + ", " + v + ")", x.item(s, l, i, v), y.item(s, l, i, v));
    }

    private void seen(int s, int l, int i) {
        int f = about(0, 4);
        int n = to(4) == 0 ? about(1, 8) : 1 + to(2);
        int h = to(6);
        for (int k = 0; k < n && to(5) > 0; k++) {
            int t = about(0, 12);
            item(s, l, i + 2 * k, t);
            boolean true1 = f >= 0 && f < y.w.men.size() && t >= 0;
            item(s, l, i + 2 * k + 1, true1 ? y.w.where(Model.points(y.w.men.get(f), h, t)) : about(0, 20));
        }
        same("strides(" + f + ", " + s + ", " + l + ", " + i + ", " + n + ")", x.strides(f, s, l, i, n), y.strides(f, s, l, i, n));
    }

    private void come(int s, int l, int i) {
        int at = i;
        int t = to(14);
        for (int f = 1; f < y.w.men.size() && to(8) > 0; f++) {
            if (y.w.men.get(f).hurt < 6) {
                item(s, l, at, y.w.comes(f, y.w.cellRunning(0, t)));
                at++;
            }
        }
        int w = about(0, 1);
        same("far(" + s + ", " + l + ", " + i + ", " + w + ")", x.far(s, l, i, w), y.far(s, l, i, w));
    }
}
