/** Counts the answers that are not as due, and helps to set up a field. */
final class Check {
    private static int wrong = 0;
    private static int asked = 0;

    private Check() {
    }

    static void due(String call, long got, long want) {
        asked++;
        if (got != want) {
            wrong++;
            System.out.println(call + " answered " + got + ", due is " + want);
        }
    }

    static void typeAll(RunningThree x, String text) {
        for (int k = 0; k < text.length(); k++) {
            x.type(text.charAt(k));
        }
    }

    /** What field() answers to a text, typed on an empty tape. */
    static int read(RunningThree x, String text) {
        typeAll(x, text);
        return x.field();
    }

    static RunningThree fieldOf(String text) {
        RunningThree x = new RunningThree();
        int answer = read(x, text);
        if (answer < 0) {
            due("field() of " + text, answer, 0);
        }
        return x;
    }

    static void items(RunningThree x, int sheet, int lane, long... values) {
        due("sheet", x.sheet(sheet, lane, values.length), values.length);
        for (int k = 0; k < values.length; k++) {
            due("item", x.item(sheet, lane, k, values[k]), 1);
        }
    }

    static int wrongSoFar() {
        return wrong;
    }

    static void end(String name) {
        System.out.println(name + ": " + asked + " answers, " + wrong + " not as due");
        if (wrong != 0) {
            System.exit(1);
        }
    }
}
