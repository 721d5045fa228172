/** States from which calls are tried, each made anew by the same calls whenever it is asked for. */
enum At {
    NEW, ONE_MAN, RUNNING, TURNED, FULL_MEN, FULL_TURNED, WON, DOWN, WON_TURNED, DOWN_TURNED, FULL_TAPE, NO_IMAGE;

    /** Costs 0 1 3 6 7 8 9 10 11 12. */
    private static final String GROUND = "../v......";

    RunningThree made() {
        RunningThree x = new RunningThree();
        switch (this) {
            case NEW: break;
            case ONE_MAN: equip(x, ";p53-1"); break;
            case RUNNING: running(x); break;
            case TURNED: turned(x); break;
            case FULL_MEN: fullMen(x); break;
            case FULL_TURNED:
                fullMen(x);
                x.turn();
                break;
            case WON:
                running(x);
                x.hurt(1, 6);
                x.hurt(2, 6);
                break;
            case DOWN:
                running(x);
                x.hurt(0, 6);
                break;
            case WON_TURNED: fought(x, ";s91,p11-5", 1); break;
            case DOWN_TURNED: fought(x, ";p11-5,s91", 2); break;
            case FULL_TAPE:
                running(x);
                fillTape(x);
                break;
            default:
                Check.read(x, GROUND + ";p53,p11");
                break;
        }
        return x;
    }

    /** Each kind of SHEET, an IMAGE of MOMENT 0, letters on THE TAPE, START and THE DRAW not as at first. */
    private static void equip(RunningThree x, String fighters) {
        Check.read(x, GROUND + fighters);
        x.start(2);
        x.seed(77);
        x.image();
        for (int s = 0; s < 4; s++) {
            if (s != 2) {
                x.sheet(s, s, s == 0 ? 24 : 6 * (s % 3));
            }
        }
        for (int i = 0; i < 24; i++) {
            x.item(0, 0, i, 21 + i);
            x.item(1, 1, i, 50 - i);
        }
        Check.typeAll(x, "./v;l45-2,s33");
    }

    /** In MOMENT 2, two of them to be UNDONE; he is in CELL 3, FIGHTER 3 is DOWN. */
    private static void running(RunningThree x) {
        equip(x, ";p53-1,s42-3,l36,f24-6");
        x.moment();
        x.hurt(2, 1);
        x.moment();
    }

    /** In MOMENT 4; FIGHTER 2 has come in it, FIGHTER 1 comes in MOMENT 8. */
    private static void turned(RunningThree x) {
        running(x);
        x.turn();
        x.moment();
        x.moment();
    }

    private static void fullMen(RunningThree x) {
        equip(x, ";p53-1,s42-3,l36,f24-6,p11");
        x.moment();
    }

    private static void fought(RunningThree x, String fighters, int outcome) {
        equip(x, fighters);
        x.turn();
        for (int k = 0; k < 12 && x.count(7) == 0; k++) {
            x.moment();
        }
        Check.due("it is over", x.count(7), outcome);
    }

    private static void fillTape(RunningThree x) {
        for (int k = 13; k < 100; k++) {
            x.type(' ');
        }
    }
}
