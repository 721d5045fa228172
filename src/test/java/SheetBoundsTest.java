/** The bounds that the document names of STRIDES, FAR and SHEETS, sentence by sentence (promises 25 to 31). */
public final class SheetBoundsTest {
    private static final int BAD = -1, NOT = -2, NONE = -4, NULL = -11, CAST = -12, INDEX = -13, SIZE = -14;
    private static final int LEAST = Integer.MIN_VALUE, MOST = Integer.MAX_VALUE;
    /** The SHEETS of every state but NEW and NO_IMAGE: 0 has 24 bytes, 1 has 6 shorts, 2 is nothing, 3 has no longs. */
    private static final int BYTES = 0, SHORTS = 1, NOTHING = 2, EMPTY = 3;

    private SheetBoundsTest() {
    }

    private static void due(String call, long got, long want) {
        Check.due(call, got, want);
    }

    public static void main(String[] args) {
        lanes();
        whatTheMachineFinds();
        hurtsByStrides();
        ofThoseSetOut();
        strides();
        stridesItems();
        farFromZeroToSixty();
        farThoseNotDown();
        farCanHaveTurned();
        far();
        film();
        filmBits();
        filmFromNow();
        sheet();
        newRow();
        drop();
        item();
        lowestBits();
        copy();
        copyAsIfTakenAhead();
        Check.end("SheetBoundsTest");
    }

    /** All of them BAD, also where the SHEET is nothing and where he has TURNED. */
    private static void bad(String call, long[]... wrong) {
        for (long[] w : wrong) {
            State.unchanged(At.RUNNING, BAD, call, w);
            State.unchanged(At.TURNED, BAD, call, w);
        }
    }

    /** The ground of 40 plain CELLS and START 20: by T, 1 to 38, the other comes in T and 20, by 0 in 0. */
    private static RunningThree reader() {
        RunningThree x = Check.fieldOf(".".repeat(40) + ";p11,p11");
        x.start(20);
        return x;
    }

    /** An item of 0 or 21 to 58, told by FAR; else NONE. */
    private static int itemOf(RunningThree x, int sheet, int lane, int i) {
        int t = x.far(sheet, lane, i, 1);
        return t > 0 ? t + 20 : t;
    }

    // ---- 3

    private static void lanes() {
        Check.says("sheets 0 .. 3: nothing (at first), or a row of a LANE: 0 bytes, 1 shorts, 2 ints, 3 longs, of 0 to 24 items.");
        for (int s = -1; s <= 4; s++) {
            for (int lane = -1; lane <= 4; lane++) {
                for (int n : new int[] {-1, 0, 1, 23, 24, 25}) {
                    RunningThree x = new RunningThree();
                    boolean told = s >= 0 && s <= 3 && lane >= 0 && lane <= 3 && n <= 24;
                    int answer = told ? n < 0 ? SIZE : n : BAD;
                    due(Calls.told("sheet", s, lane, n), x.sheet(s, lane, n), answer);
                    due("what it holds then", x.drop(s), s < 0 || s > 3 ? BAD : answer < 0 ? NULL : n);
                }
            }
        }
    }

    private static void whatTheMachineFinds() {
        Check.says("(NULL, CAST, INDEX, SIZE in this order)");
        State.unchanged(At.RUNNING, NULL, "item", NOTHING, 0, -1, 5);
        State.unchanged(At.RUNNING, CAST, "item", BYTES, 1, 24, 5);
        State.unchanged(At.RUNNING, INDEX, "item", BYTES, 0, 24, 5);
        State.unchanged(At.RUNNING, NULL, "copy", NOTHING, -1, BYTES, 0, 99);
        State.unchanged(At.RUNNING, CAST, "copy", SHORTS, -1, BYTES, 0, 99);
        State.unchanged(At.RUNNING, NULL, "far", NOTHING, 0, -1, 0);
        State.unchanged(At.RUNNING, CAST, "far", BYTES, 3, -1, 0);
        State.unchanged(At.RUNNING, NULL, "strides", 0, NOTHING, 0, -1, 1);
        State.unchanged(At.RUNNING, CAST, "strides", 0, BYTES, 2, -1, 1);
        State.unchanged(At.RUNNING, NULL, "film", 1, NOTHING, 0, -1);
        State.unchanged(At.RUNNING, CAST, "film", 1, BYTES, 2, -1);
        State.unchanged(At.RUNNING, SIZE, "sheet", NOTHING, 0, -1);
    }

    // 25, ==== 3

    private static void hurtsByStrides() {
        Check.says("HURTS (0 .. 5, bits) by which it would be so.");
        // PACE 6: by HURTS 0 and 1 6 a MOMENT, by 2 and 3 5, by 4 and 5 4; by 6 it would be 3.
        RunningThree x = Check.fieldOf(".".repeat(40) + ";p16,p16-6");
        int[][] known = {{6, 3}, {5, 12}, {4, 48}, {3, 0}, {7, 0}, {2, 0}};
        for (int[] k : known) {
            Check.items(x, 0, 2, 1, k[0]);
            due("in CELL " + k[0] + " behind a MOMENT", x.strides(0, 0, 2, 0, 1), k[1]);
            due("whatever HURT it is", x.strides(1, 0, 2, 0, 1), k[1]);
        }
        Check.items(x, 0, 2, 0, 0);
        due("all of them", x.strides(0, 0, 2, 0, 1), 63);
        Check.items(x, 0, 2, 0, 1);
        due("none of them", x.strides(0, 0, 2, 0, 1), 0);
        Check.items(x, 0, 2, 1, 5, 2, 10, 3, 15);
        due("each of three", x.strides(0, 0, 2, 0, 3), 12);
        Check.items(x, 0, 2, 1, 5, 2, 10, 3, 14);
        due("the last of three is not so", x.strides(0, 0, 2, 0, 3), 0);
        due("but the first two", x.strides(0, 0, 2, 0, 2), 12);
    }

    private static void ofThoseSetOut() {
        Check.says("a row of MOMENTS and CELLS where it was seen (of those set out)");
        RunningThree x = Check.fieldOf(".".repeat(40) + ";p12,p12");
        x.start(20);
        Check.items(x, 0, 2, 1, 2, 400, 39);
        due("a MOMENT behind START", x.strides(1, 0, 2, 0, 1), 3);
        due("of the RUNNER", x.strides(0, 0, 2, 0, 1), 3);
        due("in the last CELL, whatever HURT", x.strides(1, 0, 2, 2, 1), 63);
    }

    private static void strides() {
        Check.says("STRIDES of a FIGHTER, n of them (1 .. 8), two items each (MOMENT, CELL) of a SHEET, taken as a row of a LANE, "
            + "from item i on: a set. BAD; NULL; CAST; INDEX; NOT:");
        RunningThree x = Check.fieldOf("..;p11,p11,p11,p11,p11");
        x.sheet(0, 1, 16);
        for (int f = -1; f <= 5; f++) {
            due("FIGHTER " + f, x.strides(f, 0, 1, 0, 1), f >= 0 && f <= 4 ? 63 : BAD);
        }
        for (int n = -1; n <= 9; n++) {
            due(n + " of them", x.strides(0, 0, 1, 0, n), n >= 1 && n <= 8 ? 63 : BAD);
            for (int i = -1; n >= 1 && n <= 8 && i <= 17; i++) {
                due(n + " of them from " + i, x.strides(0, 0, 1, i, n), i >= 0 && i + 2 * n <= 16 ? 63 : INDEX);
            }
        }
        bad("strides", new long[] {-1, NOTHING, 0, 0, 1}, new long[] {4, NOTHING, 0, 0, 1}, new long[] {0, -1, 0, 0, 1},
            new long[] {0, 4, 0, 0, 1}, new long[] {0, NOTHING, -1, 0, 1}, new long[] {0, NOTHING, 4, 0, 1},
            new long[] {0, NOTHING, 0, 0, 0}, new long[] {0, NOTHING, 0, 0, 9}, new long[] {0, BYTES, 0, -1, 9},
            new long[] {LEAST, 0, 0, 0, 1}, new long[] {MOST, 0, 0, 0, 1}, new long[] {0, 0, 0, 0, LEAST}, new long[] {0, 0, 0, 0, MOST});
        State.unchanged(At.NEW, BAD, "strides", 0, 0, 0, 0, 1);
        State.unchanged(At.RUNNING, INDEX, "strides", 0, BYTES, 0, 23, 1);
        State.unchanged(At.RUNNING, INDEX, "strides", 0, BYTES, 0, -1, 1);
        State.unchanged(At.RUNNING, INDEX, "strides", 0, BYTES, 0, MOST, 8);
        State.unchanged(At.RUNNING, INDEX, "strides", 0, BYTES, 0, MOST - 1, 1);
        State.unchanged(At.RUNNING, INDEX, "strides", 0, BYTES, 0, LEAST, 8);
        State.unchanged(At.RUNNING, INDEX, "strides", 0, EMPTY, 3, 0, 1);
        // INDEX ahead of NOT: 21 and 22 are there, CELL 22 is not.
        State.unchanged(At.RUNNING, NOT, "strides", 0, BYTES, 0, 0, 1);
        State.unchanged(At.RUNNING, NOT, "strides", 0, BYTES, 0, 22, 1);
        State.unchanged(At.RUNNING, INDEX, "strides", 0, SHORTS, 1, 0, 4);
        State.unchanged(At.TURNED, NOT, "strides", 0, SHORTS, 1, 0, 3);
    }

    private static void stridesItems() {
        Check.says("NOT: an item is not as told (MOMENTS 0 .. 400).");
        RunningThree x = Check.fieldOf("....;p11,p11");
        long[][] told = {{0, 0}, {400, 3}, {399, 3}};
        for (long[] t : told) {
            Check.items(x, 0, 3, t);
            due("MOMENT " + t[0] + ", CELL " + t[1], x.strides(0, 0, 3, 0, 1), 63);
        }
        long[][] untold = {
            {-1, 0}, {401, 3}, {0, -1}, {0, 4}, {0, 40}, {Long.MIN_VALUE, 0}, {Long.MAX_VALUE, 0}, {0, Long.MIN_VALUE},
            {0, Long.MAX_VALUE}, {1L << 32, 0}, {0, 1L << 32}, {(1L << 32) + 400, 3}, {400, (1L << 32) + 3}};
        for (long[] u : untold) {
            Check.items(x, 0, 3, u);
            due("MOMENT " + u[0] + ", CELL " + u[1], x.strides(0, 0, 3, 0, 1), NOT);
            // Behind one by which it can't have been so, it is looked at all the same.
            Check.items(x, 1, 3, 0, 1, 0, 0, u[0], u[1], 0, 0);
            due("the third of four", x.strides(0, 1, 3, 0, 4), NOT);
            due("not one of the first two", x.strides(0, 1, 3, 0, 2), 0);
            due("not the last one", x.strides(0, 1, 3, 6, 1), 63);
        }
        for (int lane = 0; lane < 4; lane++) {
            Check.items(x, 0, lane, -1, 0, 0, -1, 0, 4, 0, 3);
            for (int i = 0; i < 6; i += 2) {
                due("below 0 or beyond the ground, in LANE " + lane, x.strides(0, 0, lane, i, 1), NOT);
            }
            due("as told, in LANE " + lane, x.strides(0, 0, lane, 6, 1), 0);
        }
    }

    // 26, ==== 3

    /** He makes 1 a MOMENT; the CELL that costs 58 is CELL 20. */
    private static final String TO_58 = ".." + "v".repeat(19);

    private static int farBy(String ground, int coming, int what) {
        RunningThree x = Check.fieldOf(ground + ";p11,p11");
        x.start(20);
        Check.items(x, 0, 1, coming);
        return x.far(0, 1, 0, what);
    }

    private static void farFromZeroToSixty() {
        Check.says("T from 0 to 60 in which he can have TURNED: how many; the first; none.");
        // In a CELL of COST 59 in 59, 60, 61; of COST 60 in 60, 61, 62; of COST 61 from 61 on.
        due("59 and 60, not 61", farBy(TO_58 + ".v.", 79, 0), 2);
        due("59 is the first", farBy(TO_58 + ".v.", 79, 1), 59);
        due("60, not 61", farBy(TO_58 + "/v.", 80, 0), 1);
        due("60 is the first", farBy(TO_58 + "/v.", 80, 1), 60);
        due("not 61", farBy(TO_58 + "v..", 81, 0), 0);
        due("none", farBy(TO_58 + "v..", 81, 1), NONE);
        due("58, 59, 60", farBy(TO_58 + "v..", 78, 0), 3);
        due("0", farBy(TO_58 + "v..", 0, 0), 1);
        due("0 is the first", farBy(TO_58 + "v..", 0, 1), 0);
        due("ahead of 0", farBy(TO_58 + "v..", -1, 0), 0);
        // Behind none of 61 T does one come: all of them.
        RunningThree x = Check.fieldOf(TO_58 + "vvvv;p11,p11-6");
        x.sheet(0, 1, 0);
        due("all from 0 to 60", x.far(0, 1, 0, 0), 61);
    }

    private static void farThoseNotDown() {
        Check.says("a row tells in which MOMENTS the others COME (those that are not DOWN, by numbers)");
        // To CELL 2, by T 2: in 22 (1 a MOMENT), 24 (half of it), 21 (2 a MOMENT).
        RunningThree x = Check.fieldOf("." + ".".repeat(12) + ";p11,p11,p11-6,l11,p12");
        x.start(20);
        Check.items(x, 0, 1, 22, 24, 21, 24, 22, 21);
        due("by numbers", x.far(0, 1, 0, 1), 2);
        due("by numbers", x.far(0, 1, 0, 0), 1);
        due("in another order", x.far(0, 1, 3, 1), NONE);
        due("three items, not two", x.far(0, 1, 4, 0), INDEX);
        x.hurt(3, 6);
        Check.items(x, 0, 1, 22, 21);
        due("two items then", x.far(0, 1, 0, 1), 2);
        x.hurt(3, 5);
        due("HURT 5 is not DOWN", x.far(0, 1, 0, 1), INDEX);
        Check.items(x, 0, 1, 22, 24, 22);
        due("the last of three is not so", x.far(0, 1, 0, 1), NONE);
    }

    private static void farCanHaveTurned() {
        Check.says("in which he can have TURNED:");
        // He makes half a CELL a MOMENT: in CELL 0 in 0 and 1, and there he is CAUGHT in 1.
        RunningThree x = Check.fieldOf("....;l11,p11");
        x.start(3);
        Check.items(x, 0, 1, 0, 4);
        due("in 0 and, CAUGHT, in 1", x.far(0, 1, 0, 0), 2);
        due("in CELL 1 he never was", x.far(0, 1, 1, 0), 0);
        due("in CELL 1 he never was", x.far(0, 1, 1, 1), NONE);
        // In the last CELL, of COST 3, he is in 3, and in no later MOMENT.
        RunningThree last = Check.fieldOf("....;p11,p11");
        last.start(20);
        Check.items(last, 0, 1, 23);
        due("in the last CELL, CAUGHT in 3", last.far(0, 1, 0, 0), 1);
        due("in the last CELL, CAUGHT in 3", last.far(0, 1, 0, 1), 3);
    }

    private static void far() {
        Check.says("FAR, as many items as others are not DOWN, of a SHEET likewise: how many (0), the first (1; NONE). BAD; NULL; CAST; INDEX.");
        State.unchanged(At.RUNNING, 0, "far", BYTES, 0, 0, 0);
        State.unchanged(At.RUNNING, NONE, "far", BYTES, 0, 0, 1);
        State.unchanged(At.TURNED, NONE, "far", BYTES, 0, 22, 1);
        bad("far", new long[] {-1, 0, 0, 0}, new long[] {4, 0, 0, 0}, new long[] {NOTHING, -1, 0, 0}, new long[] {NOTHING, 4, 0, 0},
            new long[] {NOTHING, 0, 0, -1}, new long[] {NOTHING, 0, 0, 2}, new long[] {BYTES, 1, -1, 2}, new long[] {LEAST, 0, 0, 0},
            new long[] {MOST, 0, 0, 0}, new long[] {0, LEAST, 0, 0}, new long[] {0, MOST, 0, 0}, new long[] {0, 0, 0, LEAST},
            new long[] {0, 0, 0, MOST});
        // Two others are not DOWN.
        for (long i : new long[] {-1, 23, 24, LEAST, MOST, MOST - 1}) {
            State.unchanged(At.RUNNING, INDEX, "far", BYTES, 0, i, 0);
            State.unchanged(At.RUNNING, INDEX, "far", BYTES, 0, i, 1);
        }
        State.unchanged(At.RUNNING, INDEX, "far", EMPTY, 3, 0, 0);
        State.unchanged(At.WON, INDEX, "far", EMPTY, 3, 1, 0);
        State.unchanged(At.WON, INDEX, "far", EMPTY, 3, -1, 0);
        State.unchanged(At.NEW, NULL, "far", 0, 0, 0, 0);
        RunningThree x = At.WON.made();
        due("no items at all", x.far(EMPTY, 3, 0, 0) >= 0 ? 1 : 0, 1);
        due("no items, behind the last", x.far(BYTES, 0, 24, 0) >= 0 ? 1 : 0, 1);
        due("no items, beyond", x.far(BYTES, 0, 25, 0), INDEX);
    }

    // 27

    private static void film() {
        Check.says("CHANCES by T now, 1 more, .. (n of them, 1 .. 24), an item each, come to a SHEET likewise: n. BAD; NOT: as best(); "
            + "NULL; CAST; INDEX.");
        for (int n = -1; n <= 25; n++) {
            RunningThree x = At.RUNNING.made();
            due(n + " of them", x.film(n, BYTES, 0, 0), n >= 1 && n <= 24 ? n : BAD);
        }
        State.answers(At.RUNNING, 1, "film", 1, BYTES, 0, 23);
        State.answers(At.RUNNING, 6, "film", 6, SHORTS, 1, 0);
        State.answers(At.RUNNING, 2, "film", 2, SHORTS, 1, 4);
        bad("film", new long[] {0, NOTHING, 0, 0}, new long[] {25, NOTHING, 0, 0}, new long[] {1, -1, 0, 0}, new long[] {1, 4, 0, 0},
            new long[] {1, NOTHING, -1, 0}, new long[] {1, NOTHING, 4, 0}, new long[] {LEAST, 0, 0, 0}, new long[] {MOST, 0, 0, 0});
        State.unchanged(At.NEW, BAD, "film", 0, 0, 0, 0);
        for (At at : new At[] {At.NEW, At.ONE_MAN, At.WON, At.DOWN, At.TURNED, At.WON_TURNED, At.DOWN_TURNED}) {
            State.unchanged(at, NOT, "film", 1, NOTHING, 0, -1);
            State.unchanged(at, NOT, "film", 24, BYTES, 0, 0);
        }
        long[][] beyond = {{24, BYTES, 0, 1}, {1, BYTES, 0, 24}, {1, BYTES, 0, -1}, {24, BYTES, 0, MOST}, {24, BYTES, 0, LEAST},
            {7, SHORTS, 1, 0}, {2, SHORTS, 1, 5}, {1, EMPTY, 3, 0}};
        for (long[] b : beyond) {
            State.unchanged(At.RUNNING, INDEX, "film", b);
        }
        State.unchanged(At.RUNNING, NULL, "film", 24, NOTHING, 0, 1);
        State.unchanged(At.RUNNING, CAST, "film", 24, BYTES, 1, 1);
    }

    /** By T 0 and 1 CHANCES are 31250 and 23437; the lowest bits are 18 and -115 of a byte, and items beside stay. */
    private static void filmBits() {
        Check.says("an item each, come to a SHEET likewise: n.");
        String[] grounds = {"./;p16-5,s91-5,p16-5"};
        for (int lane = 0; lane < 4; lane++) {
            RunningThree x = Check.fieldOf(grounds[0]);
            Check.items(x, 0, lane, 31, 32, 33, 34);
            due("by 0", x.chance(0), 31250);
            due("by 1", x.chance(1), 23437);
            due("film", x.film(2, 0, lane, 1), 2);
            Check.read(x, ".".repeat(40) + ";p11,p11");
            x.start(20);
            due("the item ahead", itemOf(x, 0, lane, 0), 31);
            due("the item behind", itemOf(x, 0, lane, 3), 34);
            due("what has come", itemOf(x, 0, lane, 1), NONE);
            // 31250 less 122 times 256 is 18: with START 17 one comes to CELL 1 in 18.
            x.start(17);
            due("the lowest bits, in LANE " + lane, x.far(0, lane, 1, 1), lane == 0 ? 1 : NONE);
            due("a byte below 0, in LANE " + lane, x.strides(0, 0, lane, 2, 1), NOT);
        }
    }

    /** CHANCES by T 0 to 25 on that ground, by START 20: all of them can be told by FAR. */
    private static final String FEW_CHANCES = "......//.v./...../././.././..//.v.//v.v;p12-3,l81-3,s91-5,f22-0";
    private static final int[] CHANCES = {
        5, 18, 23, 31, 40, 51, 51, 78, 78, 24, 32, 32, 32, 42, 52, 52, 66, 66, 84, 84, 97, 97, 97, 101, 101, 101};

    private static void filmFromNow() {
        Check.says("CHANCES by T now, 1 more, .. (n of them, 1 .. 24), an item each,");
        for (int now = 0; now <= 2; now++) {
            for (int n : new int[] {1, 2, 23, 24}) {
                for (int k = 0; k < 24; k++) {
                    filmed(now, n, k);
                }
            }
        }
    }

    /** Item k of the film; behind the last of the n it is what it was. */
    private static void filmed(int now, int n, int k) {
        int lane = k % 4;
        RunningThree x = Check.fieldOf(FEW_CHANCES);
        x.start(20);
        x.sheet(0, lane, 24);
        x.item(0, lane, k, 99);
        for (int m = 0; m < now; m++) {
            x.moment();
        }
        due("film", x.film(n, 0, lane, 0), n);
        int item = k < n ? CHANCES[now + k] : 99;
        // A LAME one comes to the last CELL in START and twice its COST, if he TURNS there.
        Check.read(x, groundOf(item / 2) + ";p16,l11");
        x.start(item % 2);
        due(n + " from " + now + " on, item " + k + ": " + item, x.far(0, lane, k, 1), (item / 2 + 5) / 6);
    }

    /** A ground whose last CELL is of that COST. */
    private static String groundOf(int cost) {
        String[] left = {"", ".", "/"};
        return "." + "v".repeat(cost / 3) + left[cost % 3];
    }

    // 28

    private static void sheet() {
        Check.says("A SHEET holds a new row of a LANE: n. BAD: also n above 24; SIZE: n below 0.");
        bad("sheet", new long[] {-1, 0, 1}, new long[] {4, 0, 1}, new long[] {0, -1, 1}, new long[] {0, 4, 1}, new long[] {0, 0, 25},
            new long[] {0, 0, MOST}, new long[] {LEAST, 0, 1}, new long[] {MOST, 0, 1}, new long[] {0, LEAST, 1}, new long[] {0, MOST, 1},
            new long[] {-1, 0, -1}, new long[] {4, 0, -1}, new long[] {0, -1, -1}, new long[] {0, 4, -1});
        for (At at : new At[] {At.NEW, At.RUNNING, At.TURNED, At.WON}) {
            for (int s = 0; s < 4; s++) {
                State.unchanged(at, SIZE, "sheet", s, s, -1);
                State.unchanged(at, SIZE, "sheet", s, 3 - s, LEAST);
                State.answers(at, 0, "sheet", s, 0, 0);
                State.answers(at, 24, "sheet", s, 3, 24);
            }
        }
    }

    private static void newRow() {
        Check.says("A SHEET holds a new row of a LANE: n.");
        RunningThree x = reader();
        Check.items(x, 0, 2, 31, 32, 33);
        Check.items(x, 1, 2, 41, 42, 43);
        due("a longer one, of another LANE", x.sheet(0, 1, 5), 5);
        for (int i = 0; i < 5; i++) {
            due("0 in each", itemOf(x, 0, 1, i), 0);
        }
        due("no more than 5", x.item(0, 1, 5, 1), INDEX);
        due("of the old LANE", x.item(0, 2, 0, 1), CAST);
        due("the others stay", itemOf(x, 1, 2, 2), 43);
        due("a shorter one", x.sheet(1, 2, 2), 2);
        due("0 in each", itemOf(x, 1, 2, 1), 0);
        due("no more than 2", x.item(1, 2, 2, 1), INDEX);
        due("none at all", x.sheet(1, 2, 0), 0);
        due("none at all", x.item(1, 2, 0, 1), INDEX);
        due("none at all is not nothing", x.drop(1), 0);
    }

    // 29

    private static void drop() {
        Check.says("A SHEET holds nothing: how many items it had. BAD; NULL.");
        State.answers(At.RUNNING, 24, "drop", BYTES);
        State.answers(At.RUNNING, 6, "drop", SHORTS);
        State.unchanged(At.RUNNING, NULL, "drop", NOTHING);
        State.answers(At.RUNNING, 0, "drop", EMPTY);
        bad("drop", new long[] {-1}, new long[] {4}, new long[] {LEAST}, new long[] {MOST});
        RunningThree x = At.RUNNING.made();
        x.drop(BYTES);
        due("twice", x.drop(BYTES), NULL);
        due("nothing to put an item into", x.item(BYTES, 0, 0, 1), NULL);
        due("nothing to take", x.far(BYTES, 0, 0, 0), NULL);
        due("nothing to take", x.strides(0, BYTES, 0, 0, 1), NULL);
        due("nothing to film on", x.film(1, BYTES, 0, 0), NULL);
        due("nothing to copy from", x.copy(BYTES, 0, SHORTS, 0, 0), NULL);
        due("nothing to copy to", x.copy(SHORTS, 0, BYTES, 0, 0), NULL);
        due("the others stay", x.drop(SHORTS), 6);
    }

    // 30

    private static void item() {
        Check.says("Item i of a SHEET, taken as a row of a LANE, becomes v, its lowest bits: 1. BAD; NULL; CAST; INDEX.");
        State.answers(At.RUNNING, 1, "item", BYTES, 0, 0, 1);
        State.answers(At.RUNNING, 1, "item", BYTES, 0, 23, 1);
        State.answers(At.RUNNING, 1, "item", SHORTS, 1, 5, Long.MIN_VALUE);
        bad("item", new long[] {-1, 0, 0, 1}, new long[] {4, 0, 0, 1}, new long[] {NOTHING, -1, 0, 1}, new long[] {NOTHING, 4, 0, 1},
            new long[] {BYTES, 4, -1, 1}, new long[] {LEAST, 0, 0, 1}, new long[] {MOST, 0, 0, 1}, new long[] {0, LEAST, 0, 1},
            new long[] {0, MOST, 0, 1});
        for (long i : new long[] {-1, 24, LEAST, MOST}) {
            State.unchanged(At.RUNNING, INDEX, "item", BYTES, 0, i, 31);
        }
        State.unchanged(At.RUNNING, INDEX, "item", SHORTS, 1, 6, 31);
        State.unchanged(At.RUNNING, INDEX, "item", EMPTY, 3, 0, 31);
        for (int lane = 0; lane < 4; lane++) {
            State.unchanged(At.RUNNING, NULL, "item", NOTHING, lane, 0, 31);
            if (lane != 0) {
                State.unchanged(At.RUNNING, CAST, "item", BYTES, lane, 0, 31);
            }
            if (lane != 3) {
                State.unchanged(At.RUNNING, CAST, "item", EMPTY, lane, 0, 31);
            }
        }
        RunningThree x = reader();
        x.sheet(0, 2, 24);
        for (int i = 0; i < 24; i++) {
            due("item", x.item(0, 2, i, 21 + i), 1);
        }
        due("item", x.item(0, 2, 11, 58), 1);
        for (int i = 0; i < 24; i++) {
            due("that item alone", itemOf(x, 0, 2, i), i == 11 ? 58 : 21 + i);
        }
    }

    private static void lowestBits() {
        Check.says("becomes v, its lowest bits: 1.");
        RunningThree x = reader();
        int[] bits = {8, 16, 32, 64};
        for (int lane = 0; lane < 4; lane++) {
            x.sheet(0, lane, 1);
            for (long high : new long[] {1, -1, 127, 1L << 20}) {
                long v = bits[lane] == 64 ? 31 : 31 + (high << bits[lane]);
                due("item", x.item(0, lane, 0, v), 1);
                due("the bits above are lost, in LANE " + lane, itemOf(x, 0, lane, 0), 31);
            }
            // One bit less than all of them is not lost; the highest one is the sign.
            due("item", x.item(0, lane, 0, 31 + (1L << bits[lane] - 2)), 1);
            due("a bit that is kept, in LANE " + lane, itemOf(x, 0, lane, 0), NONE);
            due("item", x.item(0, lane, 0, 1L << bits[lane] - 1), 1);
            due("the sign, in LANE " + lane, itemOf(x, 0, lane, 0), NONE);
        }
        // As a MOMENT 127 may stand, and 128, of a byte, is below 0.
        Check.items(x, 1, 0, 127, 39, 128, 39, 255, 39, 256, 0);
        due("127 of a byte", x.strides(0, 1, 0, 0, 1), 63);
        due("128 of a byte", x.strides(0, 1, 0, 2, 1), NOT);
        due("255 of a byte", x.strides(0, 1, 0, 4, 1), NOT);
        due("256 of a byte", x.strides(0, 1, 0, 6, 1), 63);
        Check.items(x, 1, 1, 128, 39, 400, 39, 32768, 39, 65535, 39, 65536, 0);
        int[] shorts = {63, 63, NOT, NOT, 63};
        for (int k = 0; k < shorts.length; k++) {
            due("a short", x.strides(0, 1, 1, 2 * k, 1), shorts[k]);
        }
        Check.items(x, 1, 2, 65536, 0, 1L << 31, 0, (1L << 32) - 1, 0, 1L << 32, 0);
        int[] ints = {NOT, NOT, NOT, 63};
        for (int k = 0; k < ints.length; k++) {
            due("an int", x.strides(0, 1, 2, 2 * k, 1), ints[k]);
        }
        Check.items(x, 1, 3, 1L << 32, 0, Long.MIN_VALUE, 0, -1, 0, 400, 39);
        int[] longs = {NOT, NOT, NOT, 63};
        for (int k = 0; k < longs.length; k++) {
            due("a long", x.strides(0, 1, 3, 2 * k, 1), longs[k]);
        }
    }

    // 31

    private static void copy() {
        Check.says("BAD; NULL (either); CAST: of unlike LANES; INDEX.");
        bad("copy", new long[] {-1, 0, NOTHING, 0, 1}, new long[] {4, 0, NOTHING, 0, 1}, new long[] {NOTHING, 0, -1, 0, 1},
            new long[] {NOTHING, 0, 4, 0, 1}, new long[] {LEAST, 0, 0, 0, 1}, new long[] {MOST, 0, 0, 0, 1},
            new long[] {0, 0, LEAST, 0, 1}, new long[] {0, 0, MOST, 0, 1});
        State.unchanged(At.RUNNING, NULL, "copy", NOTHING, 0, BYTES, 0, 1);
        State.unchanged(At.RUNNING, NULL, "copy", BYTES, 0, NOTHING, 0, 1);
        State.unchanged(At.RUNNING, NULL, "copy", NOTHING, 0, NOTHING, 0, 0);
        State.unchanged(At.RUNNING, CAST, "copy", BYTES, 0, SHORTS, 0, 1);
        State.unchanged(At.RUNNING, CAST, "copy", SHORTS, 0, BYTES, 0, 0);
        State.unchanged(At.RUNNING, CAST, "copy", SHORTS, 0, EMPTY, 0, -1);
        long[][] beyond = {
            {-1, 0, 1}, {0, -1, 1}, {24, 0, 1}, {0, 24, 1}, {1, 0, 24}, {0, 1, 24}, {0, 0, 25}, {0, 0, -1}, {25, 0, 0}, {0, 25, 0},
            {-1, 0, 0}, {0, -1, 0}, {MOST, 0, MOST}, {0, MOST, MOST}, {1, 1, MOST}, {LEAST, 0, LEAST}, {0, 0, LEAST}, {MOST, 0, 1}};
        for (long[] b : beyond) {
            State.unchanged(At.RUNNING, INDEX, "copy", BYTES, b[0], BYTES, b[1], b[2]);
        }
        long[][] within = {{0, 0, 24}, {23, 23, 1}, {24, 24, 0}, {0, 0, 0}, {24, 0, 0}, {0, 24, 0}};
        for (long[] w : within) {
            State.unchanged(At.RUNNING, (int) w[2], "copy", BYTES, w[0], BYTES, w[1], w[2]);
        }
        State.answers(At.RUNNING, 1, "copy", BYTES, 0, BYTES, 23, 1);
        State.answers(At.RUNNING, 23, "copy", BYTES, 1, BYTES, 0, 23);
        State.answers(At.RUNNING, 0, "copy", EMPTY, 0, EMPTY, 0, 0);
        State.answers(At.RUNNING, INDEX, "copy", EMPTY, 0, EMPTY, 0, 1);
        // Each of the two rows by its own length.
        RunningThree x = reader();
        Check.items(x, 0, 3, 31, 32, 33, 34);
        Check.items(x, 1, 3, 41, 42);
        due("as many as the shorter one has", x.copy(0, 0, 1, 0, 3), INDEX);
        due("as many as the shorter one has", x.copy(1, 0, 0, 0, 3), INDEX);
        due("refused", itemOf(x, 1, 3, 0), 41);
        due("the last two", x.copy(0, 2, 1, 0, 2), 2);
        due("the last two", itemOf(x, 1, 3, 0), 33);
        due("the last two", itemOf(x, 1, 3, 1), 34);
        due("where they were they stay", itemOf(x, 0, 3, 2), 33);
    }

    private static void copyAsIfTakenAhead() {
        Check.says("n items of a SHEET from i on come to another one (or the same) from j on, as if all were taken ahead: n.");
        for (int lane = 0; lane < 4; lane++) {
            for (int i = 0; i <= 3; i++) {
                for (int j = 0; j <= 3; j++) {
                    RunningThree x = reader();
                    Check.items(x, 0, lane, 31, 32, 33, 34, 35, 36);
                    due("copy", x.copy(0, i, 0, j, 3), 3);
                    for (int k = 0; k < 6; k++) {
                        int from = k >= j && k < j + 3 ? k - j + i : k;
                        due("item " + k + ", from " + i + " to " + j, itemOf(x, 0, lane, k), 31 + from);
                    }
                }
            }
        }
    }
}
