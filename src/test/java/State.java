import java.util.ArrayList;
import java.util.List;

/** All that calls can tell of an object; each way of asking uses up an object of its own. */
final class State {
    static final String[] WAYS = {"what is told", "what is undone", "the image", "the sheets", "the tape", "a letter more"};

    /** The ways from here on tell of THE TAPE. */
    static final int TAPE = 4;

    private State() {
    }

    /** The call is answered so, and leaves the object like one on which it was not tried. */
    static void unchanged(At at, int due, String name, long... v) {
        String told = at + ": " + Calls.told(name, v);
        for (int way = 0; way < WAYS.length; way++) {
            RunningThree x = at.made();
            Check.due(told, Calls.call(x, name, v), due);
            alike(told, x, at.made(), way);
        }
    }

    /** Uses up both of them. */
    static void alike(String told, RunningThree x, RunningThree y, int way) {
        Check.due(told + " changes " + WAYS[way], firstUnlike(tell(x, way), tell(y, way)), -1);
    }

    /** Just what is answered, on an object of its own. */
    static void answers(At at, int due, String name, long... v) {
        Check.due(at + ": " + Calls.told(name, v), Calls.call(at.made(), name, v), due);
    }

    private static int firstUnlike(List<Integer> one, List<Integer> other) {
        for (int k = 0; k < Math.max(one.size(), other.size()); k++) {
            if (k >= one.size() || k >= other.size() || !one.get(k).equals(other.get(k))) {
                return k;
            }
        }
        return -1;
    }

    private static List<Integer> tell(RunningThree x, int way) {
        List<Integer> told = new ArrayList<>();
        switch (way) {
            case 0: tellAll(x, told); break;
            case 1: tellUndone(x, told); break;
            case 2:
                told.add(x.restore());
                tellAll(x, told);
                tellUndone(x, told);
                break;
            case 3: tellSheets(x, told); break;
            case 4:
                told.add(x.field());
                tellAll(x, told);
                tellUndone(x, told);
                break;
            default:
                told.add(x.type('!'));
                told.add(x.field());
                break;
        }
        return told;
    }

    private static void tellAll(RunningThree x, List<Integer> told) {
        for (int c = 0; c < 12; c++) {
            told.add(x.sort(c));
            told.add(x.cost(c));
        }
        tellFighters(x, told);
        int draw = x.seed(1);
        x.seed(draw);
        told.add(draw);
        if (x.count(2) == 0) {
            int start = x.start(0);
            x.start(start);
            told.add(start);
        }
        // Behind MOMENT 0 START shows in what is foretold.
        told.add(x.chance(4));
    }

    private static void tellFighters(RunningThree x, List<Integer> told) {
        for (int what = 0; what < 8; what++) {
            told.add(x.count(what));
        }
        for (int f = 0; f < 5; f++) {
            for (int what = 0; what < 7; what++) {
                told.add(x.of(f, what));
            }
        }
    }

    private static void tellUndone(RunningThree x, List<Integer> told) {
        for (int k = 0; k < 3; k++) {
            told.add(x.undo());
            tellFighters(x, told);
            told.add(x.seed(5));
        }
        told.add(x.undo());
        if (x.count(2) == 0) {
            told.add(x.start(0));
        }
    }

    /** Items of 0 and 21 to 58 can be told: by them one that sets out 20 MOMENTS later comes, by T 0 to 38. */
    private static void tellSheets(RunningThree x, List<Integer> told) {
        x.field();
        Check.read(x, ".".repeat(40) + ";p11,p11");
        x.start(20);
        for (int s = 0; s < 4; s++) {
            for (int lane = 0; lane < 4; lane++) {
                int refusal = x.item(s, lane, -1, 0);
                told.add(refusal);
                for (int i = 0; refusal == RunningThree.INDEX && i < 25; i++) {
                    told.add(x.far(s, lane, i, 1));
                }
            }
            told.add(x.drop(s));
        }
    }
}
