import java.io.IOException;
import java.io.InputStream;
import java.lang.reflect.Method;
import java.lang.reflect.Modifier;
import java.net.URL;
import java.net.URLClassLoader;
import java.nio.file.Files;
import java.nio.file.Path;
import java.util.ArrayList;
import java.util.List;
import java.util.Set;
import java.util.TreeSet;
import java.util.regex.Matcher;
import java.util.regex.Pattern;
import java.util.stream.Stream;
import javax.tools.ToolProvider;

/** What README.md says is so: its calls answer as it says, its commands run, its table names all tests. */
public final class ReadmeTest {
    private static final Pattern CALL = Pattern.compile("(x\\.(\\w+)\\([^;]*\\));\\s+// (-?\\d+)(?::.*)?");
    private static final Pattern BOUND = Pattern.compile("(Bound\\w+Test)[.:]? ?((?:\\w+, )*\\w*)");
    private static final Path TESTS = Path.of("src/test/java");

    public static void main(String[] args) throws Exception {
        String page = Files.readString(Path.of("README.md"));
        Path work = Files.createTempDirectory("readme");
        try {
            calls(blocks(page, "java"), work);
            commands(blocks(page, "sh"), work);
            tests(page);
            bounds(Files.readString(Path.of("src/test/BOUNDS.md")));
        } finally {
            remove(work);
        }
        Due.end("ReadmeTest");
    }

    private static List<String> blocks(String page, String kind) {
        List<String> all = new ArrayList<>();
        Matcher found = Pattern.compile("```" + kind + "\n(.*?)```", Pattern.DOTALL).matcher(page);
        while (found.find()) {
            all.add(found.group(1));
        }
        Due.holds("README has blocks of " + kind, !all.isEmpty());
        return all;
    }

    /** Makes a class of the page's blocks in which each answer is kept beside the one that the page tells. */
    private static void calls(List<String> blocks, Path work) throws Exception {
        StringBuilder methods = new StringBuilder();
        StringBuilder body = new StringBuilder();
        Set<String> called = new TreeSet<>();
        for (String block : blocks) {
            if (block.startsWith("static ")) {
                methods.append(block);
                continue;
            }
            for (String line : block.split("\n")) {
                body.append(kept(line, called)).append('\n');
            }
        }
        Due.holds("README calls all of the face: " + called, called.equals(face()));
        Path file = work.resolve("Page.java");
        Files.writeString(file, "public final class Page {\n" + methods
            + "public static java.util.List<Object[]> answers() {\n"
            + "java.util.List<Object[]> all = new java.util.ArrayList<>();\n" + body + "return all;\n}\n}\n");
        int compiled = ToolProvider.getSystemJavaCompiler().run(null, null, null, "-d", work.toString(), "-cp",
            System.getProperty("java.class.path"), file.toString());
        Due.is("README's calls compile", compiled, 0);
        if (compiled == 0) {
            compare(work);
        }
    }

    private static String kept(String line, Set<String> called) {
        if (!line.startsWith("x.")) {
            return line;
        }
        Matcher call = CALL.matcher(line);
        boolean told = call.matches();
        Due.holds("README tells an answer: " + line, told);
        if (!told) {
            return line;
        }
        called.add(call.group(2));
        return "all.add(new Object[] {\"" + call.group(1) + "\", " + call.group(1) + ", " + call.group(3) + "});";
    }

    private static Set<String> face() {
        Set<String> all = new TreeSet<>();
        for (Method method : MusicChairs.class.getDeclaredMethods()) {
            if (Modifier.isPublic(method.getModifiers())) {
                all.add(method.getName());
            }
        }
        return all;
    }

    private static void compare(Path work) throws Exception {
        try (URLClassLoader loader = new URLClassLoader(new URL[] {work.toUri().toURL()})) {
            Method answers = loader.loadClass("Page").getMethod("answers");
            for (Object each : (List<?>) answers.invoke(null)) {
                Object[] one = (Object[]) each;
                Due.is("README: " + one[0], (Integer) one[1], (Integer) one[2]);
            }
        }
    }

    /** Runs the page's commands; .ci/run, which runs this test, is looked at by RunTest. */
    private static void commands(List<String> blocks, Path work) throws Exception {
        boolean all = false;
        for (String block : blocks) {
            for (String line : block.split("\n")) {
                if (line.equals(".ci/run")) {
                    all = Files.isExecutable(Path.of(line));
                } else {
                    Due.is("README: " + line, run(line.replaceAll("\\bout\\b", work.resolve("out").toString())), 0);
                }
            }
        }
        Due.holds("README tells .ci/run, which can be run", all);
    }

    private static int run(String line) throws IOException, InterruptedException {
        Process process = new ProcessBuilder("sh", "-c", line).redirectErrorStream(true).start();
        try (InputStream out = process.getInputStream()) {
            String said = new String(out.readAllBytes());
            int code = process.waitFor();
            if (code != 0) {
                System.out.println(said);
            }
            return code;
        }
    }

    /** The page's table names each test that .ci/run runs, and no other; what has a main method is such a test. */
    private static void tests(String page) throws IOException {
        Set<String> named = new TreeSet<>();
        for (String line : page.split("\n")) {
            String[] cells = line.split("\\|");
            if (cells.length > 2) {
                Matcher name = Pattern.compile("\\w+Test").matcher(cells[1]);
                while (name.find()) {
                    named.add(name.group());
                }
            }
        }
        Set<String> there = new TreeSet<>();
        try (Stream<Path> files = Files.list(TESTS)) {
            for (Path file : files.toList()) {
                String name = file.getFileName().toString().replace(".java", "");
                if (Files.readString(file).contains("static void main(")) {
                    Due.holds(name + " is run by .ci/run", name.endsWith("Test"));
                    there.add(name);
                }
            }
        }
        Due.holds("README names " + named + ", there are " + there, named.equals(there));
    }

    private static void bounds(String index) throws Exception {
        int many = 0;
        for (String line : index.split("\n")) {
            for (String cell : line.startsWith("|") ? line.split("\\|") : new String[0]) {
                Matcher found = BOUND.matcher(cell);
                while (found.find()) {
                    Set<String> methods = new TreeSet<>();
                    for (Method method : Class.forName(found.group(1)).getDeclaredMethods()) {
                        methods.add(method.getName());
                    }
                    for (String name : found.group(2).split(", ")) {
                        // "each `partyFault`" names no test
                        if (!name.equals("each") && !name.equals("and")) {
                            Due.holds("BOUNDS.md: " + found.group(1) + "." + name, methods.contains(name));
                            many++;
                        }
                    }
                }
            }
        }
        Due.holds("BOUNDS.md names tests: " + many, many > 100);
    }

    private static void remove(Path work) throws IOException {
        try (Stream<Path> files = Files.walk(work)) {
            List<Path> all = new ArrayList<>(files.toList());
            for (int k = all.size() - 1; k >= 0; k--) {
                Files.delete(all.get(k));
            }
        }
    }
}
