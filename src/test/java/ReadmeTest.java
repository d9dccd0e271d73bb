import java.io.IOException;
import java.lang.reflect.Method;
import java.lang.reflect.Modifier;
import java.net.URL;
import java.net.URLClassLoader;
import java.nio.file.Files;
import java.nio.file.Path;
import java.util.ArrayList;
import java.util.Comparator;
import java.util.List;
import java.util.Set;
import java.util.TreeSet;
import java.util.regex.Matcher;
import java.util.regex.Pattern;
import java.util.stream.Stream;

/** What README.md says is so: its example, its table of calls, the files and the command that it names. */
public final class ReadmeTest {
    private static final Pattern EXAMPLE = Pattern.compile("(?s)```java\n(.*?)```");
    private static final Pattern ANSWERED = Pattern.compile("(?m)^( *)(x\\.\\w+\\(.*?\\)); *// (-?\\d+): .*$");
    private static final Pattern ROW = Pattern.compile("(?m)^\\| `(\\w+)\\(([^)]*)\\)` \\|");
    private static final Pattern FILE = Pattern.compile("`((?:\\.\\./shared|src)/[^`]*)`");

    private static int wrong = 0;

    public static void main(String[] args) throws Exception {
        String page = Files.readString(Path.of("README.md"));
        exampleAnswersAsItSays(page);
        tableHasEveryCall(page);
        filesAreThere(page);
        testsAreNamed(page);
        commandIsThere(page);
        System.out.println("README.md: " + wrong + " not so");
        if (wrong != 0) {
            System.exit(1);
        }
    }

    private static void hold(String what, boolean held) {
        if (!held) {
            wrong++;
            System.out.println("not so: " + what);
        }
    }

    /** Called by the example, which is compiled with each answered call handed over to this. */
    public static void due(String call, int got, int said) {
        hold(call + " answers " + said + ", not " + got, got == said);
    }

    private static void exampleAnswersAsItSays(String page) throws Exception {
        Matcher example = EXAMPLE.matcher(page);
        boolean there = example.find();
        hold("there is an example", there);
        if (!there) {
            return;
        }
        Matcher answered = ANSWERED.matcher(example.group(1));
        long calls = answered.results().count();
        long named = example.group(1).lines().filter(line -> line.contains("//")).count();
        hold("each answer of the example is looked at", calls > 0 && calls == named);
        runExample(answered.replaceAll("$1ReadmeTest.due(\"$2\", $2, $3);"));
    }

    private static void runExample(String statements) throws Exception {
        Path folder = Files.createTempDirectory("readme");
        try {
            Path source = folder.resolve("Example.java");
            Files.writeString(source, "public class Example { public static void main(String[] args) {\n" + statements + "} }\n");
            boolean compiled = new ProcessBuilder("javac", "-cp", System.getProperty("java.class.path"), "-d", folder.toString(),
                source.toString()).inheritIO().start().waitFor() == 0;
            hold("the example can be compiled", compiled);
            if (compiled) {
                try (URLClassLoader loader = new URLClassLoader(new URL[] {folder.toUri().toURL()})) {
                    loader.loadClass("Example").getMethod("main", String[].class).invoke(null, (Object) new String[0]);
                }
            }
        } finally {
            remove(folder);
        }
    }

    private static void remove(Path folder) throws IOException {
        try (Stream<Path> inside = Files.walk(folder)) {
            for (Path path : inside.sorted(Comparator.reverseOrder()).toList()) {
                Files.delete(path);
            }
        }
    }

    private static void tableHasEveryCall(String page) {
        Set<String> face = new TreeSet<>();
        for (Method method : ShiftedShapes.class.getDeclaredMethods()) {
            if (Modifier.isPublic(method.getModifiers())) {
                face.add(method.getName() + "(" + method.getParameterCount() + ")");
            }
        }
        List<String> rows = new ArrayList<>();
        for (Matcher row = ROW.matcher(page); row.find();) {
            int parameters = row.group(2).isEmpty() ? 0 : row.group(2).split(",").length;
            rows.add(row.group(1) + "(" + parameters + ")");
        }
        hold("the table has each call once: " + face + ", not " + rows,
            rows.size() == face.size() && new TreeSet<>(rows).equals(face));
    }

    private static void filesAreThere(String page) {
        int files = 0;
        for (Matcher file = FILE.matcher(page); file.find(); files++) {
            hold(file.group(1) + " is there", Files.exists(Path.of(file.group(1))));
        }
        hold("the page names files", files > 0);
    }

    private static void testsAreNamed(String page) throws IOException {
        Set<String> there = new TreeSet<>();
        try (Stream<Path> inside = Files.list(Path.of("src/test/java"))) {
            inside.forEach(path -> there.add(path.getFileName().toString().replace(".java", "")));
        }
        Set<String> named = new TreeSet<>();
        for (Matcher test = Pattern.compile("`(\\w+Test)`").matcher(page); test.find();) {
            named.add(test.group(1));
        }
        hold("the tests named are " + there + ", not " + named, named.equals(there));
    }

    private static void commandIsThere(String page) throws IOException {
        Path command = Path.of(".ci/run");
        hold("the page names the command", page.contains("\n    .ci/run\n"));
        hold("the command can be run", Files.isExecutable(command));
        String script = Files.readString(command);
        hold("the command goes through both folders",
            script.contains("\nrun_all_under ../shared/tests\n") && script.contains("\nrun_all_under src/test/java\n"));
    }
}
