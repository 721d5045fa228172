import java.io.IOException;
import java.lang.reflect.Method;
import java.lang.reflect.Modifier;
import java.nio.file.Files;
import java.nio.file.Path;
import java.util.ArrayList;
import java.util.Comparator;
import java.util.List;
import java.util.stream.Stream;

/** What README.md says is so when it is tried as it stands. */
public final class ReadmeTest {
    private static final Path README = Path.of("README.md"), TESTS = Path.of("src/test/java");
    private static final Path SOURCE = Path.of("src/main/java/RunningThree.java");

    private ReadmeTest() {
    }

    public static void main(String[] args) throws IOException, InterruptedException {
        String readme = Files.readString(README);
        example(readme);
        callsNamed(readme);
        testsNamed(readme);
        testsRun(readme);
        Check.end("ReadmeTest");
    }

    /** The program, saved and tried by the commands, in a folder that has the class alone. */
    private static void example(String readme) throws IOException, InterruptedException {
        Path folder = Files.createTempDirectory("readme");
        try {
            Path copy = folder.resolve(SOURCE);
            Files.createDirectories(copy.getParent());
            Files.copy(SOURCE, copy);
            Files.writeString(folder.resolve("Example.java"), block(readme, "java"));
            Path printed = folder.resolve("printed");
            Process tried = new ProcessBuilder("sh", "-e", "-c", block(readme, "sh"))
                .directory(folder.toFile()).redirectErrorStream(true).redirectOutput(printed.toFile()).start();
            Check.due("the example's exit code", tried.waitFor(), 0);
            sameLines(Files.readString(printed), block(readme, "text"));
        } finally {
            remove(folder);
        }
    }

    /** What stands in the first block of that sort. */
    private static String block(String readme, String sort) {
        String opening = "```" + sort + "\n";
        int from = readme.indexOf(opening);
        int to = from < 0 ? -1 : readme.indexOf("```", from + opening.length());
        Check.due("README.md has a block of " + sort, to < 0 ? 0 : 1, 1);
        return to < 0 ? "" : readme.substring(from + opening.length(), to);
    }

    private static void sameLines(String printed, String told) {
        if (!printed.equals(told)) {
            System.out.println("the example printed:\n" + printed);
        }
        Check.due("the example prints what README.md tells", printed.equals(told) ? 1 : 0, 1);
    }

    private static void callsNamed(String readme) {
        for (Method m : RunningThree.class.getDeclaredMethods()) {
            if (Modifier.isPublic(m.getModifiers())) {
                Check.due("README.md names " + m.getName(), readme.contains("`" + m.getName() + "`") ? 1 : 0, 1);
            }
        }
    }

    private static void testsNamed(String readme) throws IOException {
        List<String> there = new ArrayList<>();
        try (Stream<Path> files = Files.list(TESTS)) {
            files.forEach(f -> there.add(f.getFileName().toString().replace(".java", "")));
        }
        for (String name : there) {
            Check.due("README.md names " + name, readme.contains("`" + name + "`") ? 1 : 0, 1);
        }
        for (String part : readme.split("[^A-Za-z]+")) {
            if (part.endsWith("Test")) {
                Check.due(part + ", which README.md names, is there", there.contains(part) ? 1 : 0, 1);
            }
        }
    }

    /** Not tried from here: it is what runs this test. */
    private static void testsRun(String readme) {
        Check.due("README.md tells how to run the tests", readme.contains("```sh\n.ci/run\n```") ? 1 : 0, 1);
        Check.due(".ci/run can be run", Files.isExecutable(Path.of(".ci/run")) ? 1 : 0, 1);
    }

    private static void remove(Path folder) throws IOException {
        List<Path> inside;
        try (Stream<Path> files = Files.walk(folder)) {
            inside = files.sorted(Comparator.reverseOrder()).toList();
        }
        for (Path file : inside) {
            Files.delete(file);
        }
    }
}
