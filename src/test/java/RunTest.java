import java.io.IOException;
import java.io.InputStream;
import java.nio.file.Files;
import java.nio.file.Path;
import java.util.ArrayList;
import java.util.List;
import java.util.stream.Stream;

/** .ci/run runs every test, of the project and under ../shared/tests, and fails if one fails; shown on small projects. */
public final class RunTest {
    private static final String PASSES = "public final class %s {\n    public static void main(String[] args) {\n"
        + "        new MusicChairs();\n        System.out.println(\"ran %1$s\");\n    }\n}\n";
    private static final String FAILS = "public final class %s {\n    public static void main(String[] args) {\n"
        + "        System.out.println(\"ran %1$s\");\n        System.exit(1);\n    }\n}\n";
    private static final String BROKEN = "public final class %s {";
    private static final String ITS_CLASS = "public final class MusicChairs {\n    public MusicChairs() {\n    }\n}\n";

    private final Path root;

    private RunTest(Path root) {
        this.root = root;
    }

    public static void main(String[] args) throws Exception {
        whole("all pass", PASSES, PASSES, ITS_CLASS, 0);
        whole("a test of the project fails", FAILS, PASSES, ITS_CLASS, 1);
        whole("a shared test fails", PASSES, FAILS, ITS_CLASS, 1);
        whole("a shared test does not compile", PASSES, BROKEN, ITS_CLASS, 1);
        refused("a test of the project does not compile", BROKEN, PASSES, ITS_CLASS);
        refused("the class does not compile", PASSES, PASSES, BROKEN.formatted("MusicChairs"));
        refused("no shared test", PASSES, null, ITS_CLASS);
        Due.end("RunTest");
    }

    /** Two tests of the project and two shared ones; the first of each is as told, the second passes. */
    private static void whole(String what, String own, String shared, String itsClass, int due) throws Exception {
        String said = project(what, own, shared, itsClass, due);
        Due.holds(what + ": OneTest runs", said.contains("ran OneTest"));
        Due.holds(what + ": TwoTest runs", said.contains("ran TwoTest"));
        Due.holds(what + ": SharedOne runs", said.contains("ran SharedOne") == !shared.equals(BROKEN));
        Due.holds(what + ": SharedTwo runs", said.contains("ran SharedTwo"));
        Due.holds(what + ": says so", said.contains("all tests pass") == (due == 0));
    }

    private static void refused(String what, String own, String shared, String itsClass) throws Exception {
        Due.holds(what + ": says so", !project(what, own, shared, itsClass, 1).contains("all tests pass"));
    }

    private static String project(String what, String own, String shared, String itsClass, int due) throws Exception {
        RunTest project = new RunTest(Files.createTempDirectory("run"));
        try {
            project.write("main/src/main/java/MusicChairs.java", itsClass);
            project.write("main/src/test/java/OneTest.java", own.formatted("OneTest"));
            project.write("main/src/test/java/TwoTest.java", PASSES.formatted("TwoTest"));
            if (shared != null) {
                project.write("shared/tests/SharedOne.java", shared.formatted("SharedOne"));
                project.write("shared/tests/SharedTwo.java", PASSES.formatted("SharedTwo"));
            }
            return project.run(what, due);
        } finally {
            project.remove();
        }
    }

    private void write(String name, String text) throws IOException {
        Path file = root.resolve(name);
        Files.createDirectories(file.getParent());
        Files.writeString(file, text);
    }

    /** Started from the directory above, for it must not matter from where. */
    private String run(String what, int due) throws IOException, InterruptedException {
        Path script = root.resolve("main/.ci/run");
        Files.createDirectories(script.getParent());
        Files.copy(Path.of(".ci/run"), script);
        Process process = new ProcessBuilder("sh", script.toString()).directory(root.toFile())
            .redirectErrorStream(true).start();
        try (InputStream out = process.getInputStream()) {
            String said = new String(out.readAllBytes());
            Due.is(what + ": exit code", process.waitFor(), due);
            return said;
        }
    }

    private void remove() throws IOException {
        try (Stream<Path> files = Files.walk(root)) {
            List<Path> all = new ArrayList<>(files.toList());
            for (int k = all.size() - 1; k >= 0; k--) {
                Files.delete(all.get(k));
            }
        }
    }
}
