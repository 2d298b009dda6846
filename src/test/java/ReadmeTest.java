import java.io.File;
import java.lang.reflect.Method;
import java.lang.reflect.Modifier;
import java.nio.charset.StandardCharsets;
import java.nio.file.Files;
import java.nio.file.Path;
import java.util.ArrayList;
import java.util.Comparator;
import java.util.List;
import java.util.regex.Matcher;
import java.util.regex.Pattern;
import java.util.stream.Stream;

/** README.md: its commands work as they stand there, and it tells every call and every test. Run from the root. */
public final class ReadmeTest {
    private static final Due due = new Due();
    private static final Path ROOT = Path.of("").toAbsolutePath();
    private static final Pattern BLOCK = Pattern.compile("(?ms)^```(\\w+)\\n(.*?)^```$");
    private static final String WHOLE = ".ci/run\n";

    private static Path place;

    /** The commands see the project as it is, but what they build is gone behind them. */
    private static void makePlace() throws Exception {
        Path above = Files.createTempDirectory("readme");
        place = Files.createDirectory(above.resolve("main"));
        Files.createSymbolicLink(place.resolve("src"), ROOT.resolve("src"));
        Files.createSymbolicLink(above.resolve("shared"), ROOT.resolveSibling("shared"));
    }

    private static void clearPlace() throws Exception {
        try (Stream<Path> all = Files.walk(place.getParent())) {
            all.sorted(Comparator.reverseOrder()).map(Path::toFile).forEach(File::delete);
        }
    }

    private static String printed(String commands) throws Exception {
        ProcessBuilder shell = new ProcessBuilder("sh", "-e", "-c", commands);
        Process run = shell.directory(place.toFile()).redirectErrorStream(true).start();
        String all = new String(run.getInputStream().readAllBytes(), StandardCharsets.UTF_8);
        int end = run.waitFor();
        due.is("the commands\n" + commands + "which printed\n" + all, end, 0);
        return all;
    }

    /** A text that stands behind commands is what they print; Java stands in the example as it stands here. */
    private static void blocks(String page) throws Exception {
        int commands = 0;
        String last = "";
        boolean tellsWhole = false;
        for (Matcher m = BLOCK.matcher(page); m.find();) {
            String sort = m.group(1), text = m.group(2);
            if (sort.equals("sh") && text.equals(WHOLE)) {
                tellsWhole = true;
            } else if (sort.equals("sh")) {
                last = printed(text);
                commands++;
            } else if (sort.equals("text")) {
                due.same("what is printed", last, text);
            } else {
                due.is("a block of " + sort, sort.equals("java") ? 1 : 0, 1);
                standsInExample(text);
            }
        }
        due.is("commands ahead of the tests, and three among them", commands, 4);
        due.is("it tells of .ci/run", tellsWhole && Files.isExecutable(ROOT.resolve(".ci/run")) ? 1 : 0, 1);
    }

    private static void standsInExample(String text) throws Exception {
        String example = Files.readString(Path.of("src/example/java/Winter.java")).replaceAll("(?m)^ +", "");
        due.is("in the example: " + text, example.contains(text.replaceAll("(?m)^ +", "")) ? 1 : 0, 1);
    }

    private static void calls(String page) {
        List<String> unnamed = new ArrayList<>();
        for (Method m : ShieldLine.class.getDeclaredMethods()) {
            if (!Modifier.isPublic(m.getModifiers())) continue;
            Matcher told = Pattern.compile("`" + m.getName() + "\\(([^)]*)\\)").matcher(page);
            int takes = -1;
            if (told.find()) takes = told.group(1).isEmpty() ? 0 : told.group(1).split(",").length;
            due.is("how many numbers " + m.getName() + " takes", takes, m.getParameterCount());
            if (takes < 0) unnamed.add(m.getName());
        }
        due.same("calls that it does not name", unnamed.toString(), "[]");
    }

    private static void tests(String page) {
        File[] files = ROOT.resolve("src/test/java").toFile().listFiles();
        for (File file : files == null ? new File[0] : files) {
            String name = file.getName().replace(".java", "");
            if (name.endsWith("Test")) due.is("it tells of " + name, page.contains("`" + name + "`") ? 1 : 0, 1);
        }
    }

    public static void main(String[] args) throws Exception {
        String page = Files.readString(Path.of("README.md"));
        makePlace();
        try {
            blocks(page);
        } finally {
            clearPlace();
        }
        calls(page);
        tests(page);
        due.end();
    }
}
