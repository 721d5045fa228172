import java.util.Random;

/**
 * What is foretold by supposing something against the same asked when it is so: on grounds of any
 * length, with up to five fighters, where the model would be too slow.
 */
public final class WhatIfTest {
    private static final int FIELDS = 250, STEPS = 10;
    /** From these a DRAW leaves 0 and 15 over by 16: the other one is HURT, he is. */
    private static final int OTHER_HURT = seedFor(0), HE_HURT = seedFor(15);

    private final Random draws;
    private final String ground;
    private final String fighters;
    private final int start;

    private WhatIfTest(long seed) {
        draws = new Random(seed);
        ground = groundOf(draws.nextInt(3) == 0 ? 40 : 1 + draws.nextInt(40));
        fighters = fightersOf(2 + draws.nextInt(4));
        start = draws.nextInt(3) == 0 ? 0 : draws.nextInt(21);
    }

    public static void main(String[] args) {
        for (int k = 0; k < FIELDS; k++) {
            WhatIfTest test = new WhatIfTest(k);
            test.ditched();
            test.later();
            test.byMoments();
        }
        Check.end("WhatIfTest");
    }

    private String groundOf(int cells) {
        StringBuilder text = new StringBuilder(".");
        for (int k = 1; k < cells; k++) {
            text.append("....../v".charAt(draws.nextInt(8)));
        }
        return text.toString();
    }

    private String fightersOf(int n) {
        StringBuilder text = new StringBuilder();
        for (int f = 0; f < n; f++) {
            text.append(f == 0 ? ';' : ',').append("pslf".charAt(draws.nextInt(4)));
            text.append(f == 0 ? 5 + draws.nextInt(5) : 1 + draws.nextInt(7)).append(1 + draws.nextInt(6));
            text.append('-').append(f == 0 ? 0 : draws.nextInt(6));
        }
        return text.toString();
    }

    private RunningThree on(String thatGround) {
        RunningThree x = Check.fieldOf(thatGround + fighters);
        x.start(start);
        return x;
    }

    private void ditched() {
        int most = on(ground).best(1);
        int found = RunningThree.NONE;
        for (int c = 1; c < ground.length(); c++) {
            if (ground.charAt(c) == '.') {
                int chance = on(ground.substring(0, c) + "v" + ground.substring(c + 1)).best(1);
                if (chance > most) {
                    most = chance;
                    found = c;
                }
            }
        }
        Check.due("ditched() on " + ground + fighters + " by " + start, on(ground).ditched(), found);
    }

    private void later() {
        RunningThree x = on(ground);
        for (int k = draws.nextInt(4); k > 0; k--) {
            x.moment();
        }
        if (x.count(3) == 0 && x.count(7) == 0) {
            byT(x);
            ahead(x);
        }
    }

    private void byT(RunningThree x) {
        String told = " on " + ground + fighters + " by " + start;
        int now = x.count(2);
        int asked = x.chance(now + draws.nextInt(20));
        int most = -1;
        int first = -1;
        int last = RunningThree.NONE;
        for (int t = now; t <= now + 60; t++) {
            int chance = x.chance(t);
            if (chance > most) {
                most = chance;
                first = t;
            }
            last = chance >= asked ? t : last;
        }
        Check.due("best(0)" + told, x.best(0), first);
        Check.due("best(1)" + told, x.best(1), most);
        Check.due("late(" + asked + ")" + told, x.late(asked), last);
        Check.due("together(0, 2)" + told, x.together(0, 2), x.together(0, 1) < most ? 1 : 0);
        Check.due("together(now, 0)" + told, x.together(now, 0), x.together(0, 1));
    }

    private void ahead(RunningThree x) {
        int most = -1;
        int whom = RunningThree.NONE;
        for (int f = 1; f < x.count(1); f++) {
            int was = x.of(f, 3);
            if (was < 6) {
                x.hurt(f, was + 1);
                int chance = x.count(7) == 1 ? 1000000 : x.best(1);
                x.hurt(f, was);
                if (chance > most) {
                    most = chance;
                    whom = f;
                }
            }
        }
        Check.due("ahead(0) on " + ground + fighters, x.ahead(0), whom);
        Check.due("ahead(1) on " + ground + fighters, x.ahead(1), most);
    }

    private static int seedFor(int left) {
        int s = 0;
        while ((int) ((s * 1103515245L + 12345L) % (1L << 31)) / 65536 % 16 != left) {
            s++;
        }
        return s;
    }

    /** CHANCE by T is that of one who has run on and TURNED; then it is made of those behind the MOMENT. */
    private void byMoments() {
        RunningThree x = on(ground);
        if (x.count(7) != 0) {
            return;
        }
        int t = draws.nextInt(12);
        int foretold = x.chance(t);
        for (int m = 0; m < t && x.count(3) == 0; m++) {
            x.moment();
        }
        x.turn();
        Check.due("chance(" + t + ") on " + ground + fighters + " by " + start, foretold, x.chance(0));
        for (int k = 0; k < STEPS && x.count(7) == 0; k++) {
            step(x);
        }
    }

    private void step(RunningThree x) {
        String told = " in " + x.count(2) + " on " + ground + fighters + " by " + start;
        int chance = x.chance(400);
        int odds = oddsNext(x);
        x.image();
        x.seed(OTHER_HURT);
        int who = x.moment();
        int won = chanceOrEnd(x);
        if (odds == 0) {
            Check.due("nobody is there" + told, who, RunningThree.NONE);
            Check.due("nobody is there" + told, chance, won);
            return;
        }
        x.restore();
        x.seed(HE_HURT);
        Check.due("he is HURT" + told, x.moment(), 0);
        int lost = chanceOrEnd(x);
        Check.due("chance" + told, chance, (odds * won + (16 - odds) * lost) / 16);
        if (draws.nextInt(3) > 0) {
            x.restore();
            x.seed(OTHER_HURT);
            Check.due("the other one is HURT" + told, x.moment(), who);
        }
    }

    private static int chanceOrEnd(RunningThree x) {
        int end = x.count(7);
        return end == 0 ? x.chance(0) : end == 1 ? 1000000 : 0;
    }

    /** ODDS of the fight in the MOMENT that comes, 0 if nobody is there by its end. */
    private static int oddsNext(RunningThree x) {
        int next = x.count(2) + 1;
        int first = 0;
        int soonest = 0;
        int there = 0;
        for (int f = 1; f < x.count(1); f++) {
            int comes = x.of(f, 6);
            if (comes >= 0 && comes <= next) {
                there++;
                if (first == 0 || comes < soonest) {
                    first = f;
                    soonest = comes;
                }
            }
        }
        if (there == 0) {
            return 0;
        }
        int odds = 8 + x.of(0, 4) - x.of(first, 4) - 2 * (there - 1);
        return Math.max(1, Math.min(15, odds));
    }
}
