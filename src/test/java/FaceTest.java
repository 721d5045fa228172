import java.io.IOException;
import java.lang.reflect.Constructor;
import java.lang.reflect.Executable;
import java.lang.reflect.Field;
import java.lang.reflect.Method;
import java.lang.reflect.Modifier;
import java.nio.file.Files;
import java.nio.file.Path;
import java.util.ArrayList;
import java.util.Collections;
import java.util.HashSet;
import java.util.List;
import java.util.Set;

/** The face of the document, and what of LANGUAGE.md can be seen from outside or by words. */
public final class FaceTest {
    private static final String[] FACE = {
        "ahead(int)", "best(int)", "chance(int)", "copy(int,int,int,int,int)", "cost(int)", "count(int)",
        "ditched()", "drop(int)", "far(int,int,int,int)", "field()", "fields(int,int)", "fighter(int,int,int)",
        "film(int,int,int,int)", "hurt(int,int)", "image()", "item(int,int,int,long)", "late(int)", "moment()",
        "of(int,int)", "points(int,int)", "restore()", "seed(int)", "sheet(int,int,int)", "sort(int)",
        "start(int)", "strides(int,int,int,int,int)", "together(int,int)", "turn()", "type(int)", "undo()"};
    private static final String[] CONSTANTS = {
        "BAD=-1", "CAST=-12", "FULL=-3", "INDEX=-13", "NONE=-4", "NOT=-2", "NULL=-11", "SIZE=-14"};
    private static final String[] WORDS = {
        "catch", "throw", "finally", "assert", "synchronized", "import", "->", "::", "Exact", "System.nano",
        "System.current", "System.out", "java.", "protected"};

    private FaceTest() {
    }

    public static void main(String[] args) throws IOException, IllegalAccessException {
        methods();
        constants();
        classes();
        words();
        Check.end("FaceTest");
    }

    private static String told(Executable e) {
        List<String> types = new ArrayList<>();
        for (Class<?> t : e.getParameterTypes()) {
            types.add(t.getName());
        }
        return e.getName() + "(" + String.join(",", types) + ")";
    }

    private static void methods() {
        List<String> open = new ArrayList<>();
        Set<String> names = new HashSet<>();
        List<String> hidden = new ArrayList<>();
        for (Method m : RunningThree.class.getDeclaredMethods()) {
            if (Modifier.isPublic(m.getModifiers())) {
                open.add(told(m));
                names.add(m.getName());
                Check.due(told(m) + " answers an int", m.getReturnType() == int.class ? 1 : 0, 1);
            } else {
                hidden.add(m.getName());
                Check.due(told(m) + " is private", Modifier.isPrivate(m.getModifiers()) ? 1 : 0, 1);
            }
        }
        Collections.sort(open);
        Check.due("the face is as told: " + open, open.equals(List.of(FACE)) ? 1 : 0, 1);
        for (String h : hidden) {
            Check.due(h + " has the name of a public method", names.contains(h) ? 1 : 0, 0);
        }
        for (Class<?> c : RunningThree.class.getDeclaredClasses()) {
            for (Method m : c.getDeclaredMethods()) {
                Check.due(m.getName() + " has the name of a public method", names.contains(m.getName()) ? 1 : 0, 0);
            }
        }
        Constructor<?>[] made = RunningThree.class.getDeclaredConstructors();
        Check.due("one constructor", made.length, 1);
        Check.due("a public constructor", Modifier.isPublic(made[0].getModifiers()) ? 1 : 0, 1);
        Check.due("without parameters", made[0].getParameterCount(), 0);
        Check.due("a final class", Modifier.isFinal(RunningThree.class.getModifiers()) ? 1 : 0, 1);
    }

    private static void constants() throws IllegalAccessException {
        List<String> open = new ArrayList<>();
        for (Field f : RunningThree.class.getDeclaredFields()) {
            if (Modifier.isPublic(f.getModifiers())) {
                open.add(f.getName() + "=" + f.get(null));
            } else {
                Check.due(f.getName() + " is private", Modifier.isPrivate(f.getModifiers()) ? 1 : 0, 1);
            }
        }
        Collections.sort(open);
        Check.due("the constants are as told: " + open, open.equals(List.of(CONSTANTS)) ? 1 : 0, 1);
    }

    private static void classes() {
        Class<?>[] inside = RunningThree.class.getDeclaredClasses();
        Check.due("at most twelve classes", inside.length < 12 ? 1 : 0, 1);
        List<Class<?>> all = new ArrayList<>(List.of(inside));
        all.add(RunningThree.class);
        for (Class<?> c : all) {
            int fields = 0;
            for (Field f : c.getDeclaredFields()) {
                boolean fixed = Modifier.isStatic(f.getModifiers());
                fields += fixed ? 0 : 1;
                Check.due(f.getName() + ": static, so final", !fixed || Modifier.isFinal(f.getModifiers()) ? 1 : 0, 1);
            }
            Check.due(c.getName() + ": at most twenty fields", fields <= 20 ? 1 : 0, 1);
            for (Method m : c.getDeclaredMethods()) {
                Check.due(told(m) + ": at most seven parameters", m.getParameterCount() <= 7 ? 1 : 0, 1);
            }
        }
    }

    private static void words() throws IOException {
        String text = Files.readString(Path.of("src/main/java/RunningThree.java"));
        for (String w : WORDS) {
            Check.due("the word " + w, text.contains(w) ? 1 : 0, 0);
        }
        for (int k = 0; k < text.length(); k++) {
            if (text.charAt(k) > 126) {
                Check.due("a sign above 126 at " + k, 1, 0);
            }
        }
    }
}
