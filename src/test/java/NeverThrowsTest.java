import java.util.Random;

/** 512 calls on each object, with any numbers at all, in any state: none throws, each answer can be. */
public final class NeverThrowsTest {
    private static final int RUNS = 600, CALLS = 512;
    private static final int[] EXTREMES = {
        Integer.MIN_VALUE, Integer.MIN_VALUE + 1, -400, -1, 0, 1, 2, 3, 4, 5, 6, 7, 8, 9, 12, 20, 23, 24, 25, 39, 40,
        46, 47, 60, 90, 100, 112, 118, 126, 399, 400, 401, 1000000, 1 << 30, Integer.MAX_VALUE - 1, Integer.MAX_VALUE};

    private final Random draws;
    private final RunningThree x = new RunningThree();

    private NeverThrowsTest(long seed) {
        draws = new Random(seed);
    }

    public static void main(String[] args) {
        for (int run = 0; run < RUNS; run++) {
            new NeverThrowsTest(run).go(run);
        }
        Check.end("NeverThrowsTest");
    }

    private int any() {
        switch (draws.nextInt(4)) {
            case 0: return EXTREMES[draws.nextInt(EXTREMES.length)];
            case 1: return draws.nextInt();
            default: return draws.nextInt(5);
        }
    }

    private void go(int run) {
        for (int k = 0; k < CALLS; k++) {
            int which = draws.nextInt(34);
            try {
                int answer = call(which);
                Check.due("run " + run + ", call " + which + " answered below all answers", answer < -120 ? 1 : 0, 0);
            } catch (RuntimeException e) {
                Check.due("run " + run + ", call " + which + " threw " + e, 1, 0);
            }
        }
    }

    private int call(int which) {
        switch (which) {
            case 0: return x.fighter(any(), any(), any());
            case 1: return x.of(any(), any());
            case 2: return x.hurt(any(), any());
            case 3: return x.start(any());
            case 4: return x.sort(any());
            case 5: return x.cost(any());
            case 6: return x.points(any(), any());
            case 7: return x.type(any());
            case 8: return x.field();
            case 9: return x.count(any());
            case 10: return x.moment();
            case 11: return draws.nextInt(4) == 0 ? x.turn() : x.moment();
            case 12: return x.undo();
            case 13: return x.seed(any());
            case 14: return x.chance(any());
            case 15: return x.best(any());
            case 16: return x.late(any());
            default: return more(which);
        }
    }

    private int more(int which) {
        switch (which) {
            case 17: return x.together(any(), any());
            case 18: return x.ditched();
            case 19: return x.ahead(any());
            case 20: return x.fields(any(), any());
            case 21: return x.image();
            case 22: return x.restore();
            case 23: return x.strides(any(), any(), any(), any(), any());
            case 24: return x.far(any(), any(), any(), any());
            case 25: return x.film(any(), any(), any(), any());
            case 26: return x.sheet(any(), any(), any());
            case 27: return x.drop(any());
            case 28: return x.item(any(), any(), any(), draws.nextLong());
            case 29: return x.copy(any(), any(), any(), any(), any());
            case 30: return x.fighter(draws.nextInt(4), 1 + draws.nextInt(9), 1 + draws.nextInt(6));
            default: return Check.read(x, text());
        }
    }

    private String text() {
        StringBuilder text = new StringBuilder(".");
        for (int k = draws.nextInt(42); k > 0; k--) {
            text.append(".../v".charAt(draws.nextInt(5)));
        }
        for (int k = draws.nextInt(7), f = 0; f < k; f++) {
            text.append(f == 0 ? ';' : ',').append("pslf".charAt(draws.nextInt(4))).append(1 + draws.nextInt(9));
            text.append(1 + draws.nextInt(6)).append('-').append(draws.nextInt(7));
        }
        return text.toString();
    }
}
