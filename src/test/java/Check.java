import java.io.IOException;
import java.nio.file.Files;
import java.nio.file.Path;

/** Counts the answers that are not as due, and helps to set up a field. */
final class Check {
    private static final Path DOCUMENT = Path.of("../shared/DOC.md");

    private static int wrong = 0;
    private static int asked = 0;
    private static String sentence = "";
    private static int askedBefore = 0;
    private static String document = "";

    private Check() {
    }

    static void due(String call, long got, long want) {
        asked++;
        if (got != want) {
            wrong++;
            String of = sentence.isEmpty() ? "" : " [" + sentence + "]";
            System.out.println(call + " answered " + got + ", due is " + want + of);
        }
    }

    /** What is asked from here on is asked for this sentence, which must stand so in the document. */
    static void says(String words) {
        endSentence();
        sentence = words;
        String text = documentText();
        if (!text.isEmpty()) {
            due("the document says so", text.contains(words) ? 1 : 0, 1);
        }
        askedBefore = asked;
    }

    /** A sentence that nothing was asked for has no test. */
    private static void endSentence() {
        if (!sentence.isEmpty() && asked == askedBefore) {
            due("nothing was asked", 0, 1);
        }
    }

    /** Empty where the document doesn't stand beside the project: then its words can't be compared. */
    private static String documentText() {
        if (document.isEmpty() && Files.isReadable(DOCUMENT)) {
            try {
                document = Files.readString(DOCUMENT).replaceAll("\\s+", " ");
            } catch (IOException e) {
                due("the document can't be read: " + e, 0, 1);
            }
        }
        return document;
    }

    static void typeAll(RunningThree x, String text) {
        for (int k = 0; k < text.length(); k++) {
            x.type(text.charAt(k));
        }
    }

    /** What field() answers to a text, typed on an empty tape. */
    static int read(RunningThree x, String text) {
        typeAll(x, text);
        return x.field();
    }

    static RunningThree fieldOf(String text) {
        RunningThree x = new RunningThree();
        int answer = read(x, text);
        if (answer < 0) {
            due("field() of " + text, answer, 0);
        }
        return x;
    }

    static void items(RunningThree x, int sheet, int lane, long... values) {
        due("sheet", x.sheet(sheet, lane, values.length), values.length);
        for (int k = 0; k < values.length; k++) {
            due("item", x.item(sheet, lane, k, values[k]), 1);
        }
    }

    static int wrongSoFar() {
        return wrong;
    }

    static void end(String name) {
        endSentence();
        System.out.println(name + ": " + asked + " answers, " + wrong + " not as due");
        if (wrong != 0) {
            System.exit(1);
        }
    }
}
