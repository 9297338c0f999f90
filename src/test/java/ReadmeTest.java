import java.io.File;
import java.lang.reflect.Method;
import java.lang.reflect.Modifier;
import java.net.URL;
import java.net.URLClassLoader;
import java.nio.file.Files;
import java.nio.file.Path;
import java.util.ArrayList;
import java.util.List;
import java.util.TreeSet;
import java.util.regex.Matcher;
import java.util.regex.Pattern;
import java.util.stream.Collectors;
import java.util.stream.Stream;
import javax.tools.ToolProvider;

/** What README.md shows of the use of the class is compiled and run as it stands there. */
public final class ReadmeTest {
    private static final Due DUE = new Due();
    private static final Path PAGE = Path.of("README.md");
    private static final Pattern ANSWERED = Pattern.compile("^(.*\\)); +// (-?\\d+)(:.*)?$");

    public static void main(String[] args) throws Exception {
        List<List<String>> blocks = blocks("```java");
        DUE.is("there are blocks of calls", 1, blocks.size() > 1 ? 1 : 0);
        runAll(blocks);
        showsAllMethods(blocks);
        tellsHowToTest();
        DUE.close();
    }

    /** The lines within each pair of fences of which the first is told. */
    private static List<List<String>> blocks(String fence) throws Exception {
        List<List<String>> all = new ArrayList<>();
        List<String> block = null;
        for (String line : Files.readAllLines(PAGE)) {
            if (block == null && line.equals(fence)) {
                block = new ArrayList<>();
            } else if (block != null && line.equals("```")) {
                all.add(block);
                block = null;
            } else if (block != null) {
                block.add(line);
            }
        }
        return all;
    }

    private static boolean tellsMethods(List<String> block) {
        return block.get(0).startsWith("static ");
    }

    /** Methods stay as they are; of each call its answer is kept. */
    private static String programOf(List<List<String>> blocks) {
        StringBuilder methods = new StringBuilder();
        StringBuilder calls = new StringBuilder();
        for (List<String> block : blocks) {
            StringBuilder part = tellsMethods(block) ? methods : calls;
            for (String line : block) {
                Matcher answered = ANSWERED.matcher(line);
                boolean asks = !tellsMethods(block) && answered.find();
                part.append(asks ? "got.add(" + answered.group(1) + ");" : line).append('\n');
            }
        }
        return "import java.util.List;\nimport java.util.ArrayList;\npublic final class Shown {\n" + methods
                + "public static List<Integer> answers() {\nList<Integer> got = new ArrayList<>();\n" + calls
                + "return got;\n}\n}\n";
    }

    private static void runAll(List<List<String>> blocks) throws Exception {
        List<?> got = answersOf(programOf(blocks));
        int asked = 0;
        for (List<String> block : blocks) {
            for (String line : tellsMethods(block) ? List.<String>of() : block) {
                Matcher answered = ANSWERED.matcher(line);
                if (answered.find()) {
                    int answer = asked < got.size() ? (Integer) got.get(asked) : Integer.MIN_VALUE;
                    DUE.is(answered.group(1), Integer.parseInt(answered.group(2)), answer);
                    asked++;
                } else {
                    DUE.is("has an answer: " + line, 1, line.equals("WrongHole x = new WrongHole();") ? 1 : 0);
                }
            }
        }
        DUE.is("how many answers", asked, got.size());
    }

    private static List<?> answersOf(String program) throws Exception {
        Path work = Files.createTempDirectory("readme");
        try {
            Path source = work.resolve("Shown.java");
            Files.writeString(source, program);
            String[] options = {"-encoding", "UTF-8", "-cp", System.getProperty("java.class.path"),
                "-d", work.toString(), source.toString()};
            int compiled = ToolProvider.getSystemJavaCompiler().run(null, null, null, options);
            DUE.is("README.md's calls compile", 0, compiled);
            return compiled == 0 ? answersIn(work) : List.of();
        } finally {
            for (File file : work.toFile().listFiles()) {
                Files.delete(file.toPath());
            }
            Files.delete(work);
        }
    }

    private static List<?> answersIn(Path work) throws Exception {
        try (URLClassLoader loader = new URLClassLoader(new URL[] {work.toUri().toURL()})) {
            return (List<?>) loader.loadClass("Shown").getMethod("answers").invoke(null);
        }
    }

    private static void showsAllMethods(List<List<String>> blocks) {
        String shown = blocks.stream().filter(b -> !tellsMethods(b)).flatMap(List::stream)
                .collect(Collectors.joining("\n"));
        for (Method m : WrongHole.class.getDeclaredMethods()) {
            if (Modifier.isPublic(m.getModifiers())) {
                DUE.is("shows " + m.getName(), 1, shown.contains("x." + m.getName() + "(") ? 1 : 0);
            }
        }
    }

    private static void tellsHowToTest() throws Exception {
        List<List<String>> ways = blocks("```sh");
        DUE.is("one way to run the tests", 1, ways.size());
        DUE.is("it is .ci/run", 1, ways.get(0).equals(List.of(".ci/run")) ? 1 : 0);
        Path script = Path.of(".ci/run");
        DUE.is(".ci/run can be run", 1, Files.isExecutable(script) ? 1 : 0);
        String steps = Files.readString(script);
        String page = Files.readString(PAGE);
        for (String place : List.of("src/test/java/*Test.java", "../shared/tests")) {
            DUE.is(".ci/run goes to " + place, 1, steps.contains(place) ? 1 : 0);
            DUE.is("README.md tells of " + place, 1, page.contains(place) ? 1 : 0);
        }
        TreeSet<String> named = new TreeSet<>();
        Matcher names = Pattern.compile("`(\\w+Test)`").matcher(page);
        while (names.find()) {
            named.add(names.group(1));
        }
        TreeSet<String> there = new TreeSet<>();
        try (Stream<Path> files = Files.list(Path.of("src/test/java"))) {
            files.map(f -> f.getFileName().toString()).filter(f -> f.endsWith("Test.java"))
                    .forEach(f -> there.add(f.substring(0, f.length() - 5)));
        }
        DUE.is("README.md names the tests " + there + ", not " + named, 1, named.equals(there) ? 1 : 0);
    }
}
