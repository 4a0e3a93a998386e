import java.io.IOException;
import java.lang.reflect.Method;
import java.lang.reflect.Modifier;
import java.nio.file.Files;
import java.nio.file.Path;
import java.util.ArrayList;
import java.util.Comparator;
import java.util.List;
import java.util.Set;
import java.util.TreeSet;
import java.util.regex.Matcher;
import java.util.regex.Pattern;
import java.util.stream.Stream;

/** What README.md says is so: its example and its commands are run as they stand there, its tables held against what there is. */
public final class ReadmeTest {
    private static final Path TESTS = Path.of("src/test/java");

    private final String page;

    private ReadmeTest(String page) {
        this.page = page;
    }

    public static void main(String[] args) throws IOException, InterruptedException {
        ReadmeTest test = new ReadmeTest(Files.readString(Path.of("README.md")));
        test.example();
        test.commands();
        test.tells();
        test.calls();
        test.tests();
        Checks.end("ReadmeTest");
    }

    private List<String> blocks(String kind) {
        List<String> found = new ArrayList<>();
        Matcher m = Pattern.compile("(?s)```" + kind + "\n(.*?)```").matcher(page);
        while (m.find()) {
            found.add(m.group(1));
        }
        return found;
    }

    private static String blockWith(List<String> blocks, String words) {
        for (String block : blocks) {
            if (block.contains(words)) {
                return block;
            }
        }
        Checks.due("a block with " + words, true, false);
        return "";
    }

    private void example() throws IOException, InterruptedException {
        Path folder = copyOfProject();
        Files.writeString(folder.resolve("Example.java"), blockWith(blocks("java"), "class Example"));
        String printed = run(folder, blockWith(blocks("sh"), "Example"));
        List<String> want = blockWith(blocks("text"), "read: 0").lines().toList();
        List<String> got = printed.lines().toList();
        for (int i = 0; i < Math.max(want.size(), got.size()); i++) {
            String due = i < want.size() ? want.get(i) : "nothing";
            String there = i < got.size() ? got.get(i) : "nothing";
            Checks.due("the example prints \"" + there + "\", README.md has \"" + due + "\"", true, due.equals(there));
        }
        delete(folder);
    }

    private void commands() throws IOException, InterruptedException {
        Path folder = copyOfProject();
        String printed = run(folder, blockWith(blocks("sh"), "ModelTest"));
        Checks.due("one test alone: " + printed, true, printed.contains("PromisesTest: ") && printed.contains("ModelTest: 20480 answers"));
        delete(folder);
        Checks.due("the command " + blocks("sh").get(1), true, blocks("sh").get(1).equals(".ci/run\n"));
        Checks.due(".ci/run can be run", true, Files.isExecutable(Path.of(".ci/run")));
    }

    /** What stands in the table of texts is read, all in one text, and each of it alone with what it needs. */
    private void tells() {
        StringBuilder all = new StringBuilder();
        for (String tell : firstColumn("| in the text |")) {
            all.append(tell);
            String needed = tell.startsWith("visit") ? "chair wing 4; head uncle 3 40 0 10 0;" : "";
            Checks.of(needed + tell);
        }
        HeadCloths x = Checks.of(all.toString());
        Checks.due("tells of the table: chairs", 1, x.count(0));
        Checks.due("tells of the table: heads", 1, x.count(1));
        Checks.due("tells of the table: visits", 1, x.count(2));
    }

    private void calls() {
        Set<String> told = new TreeSet<>();
        String table = page.substring(page.indexOf("| for | calls |"), page.indexOf("The faults of a text"));
        Matcher m = Pattern.compile("`(\\w+)`").matcher(table);
        while (m.find()) {
            Checks.due("told once: " + m.group(1), true, told.add(m.group(1)));
        }
        Set<String> there = new TreeSet<>();
        for (Method method : HeadCloths.class.getDeclaredMethods()) {
            if (Modifier.isPublic(method.getModifiers())) {
                there.add(method.getName());
            }
        }
        Checks.due("calls in README.md " + told + ", in the class " + there, true, told.equals(there));
    }

    private void tests() throws IOException {
        Set<String> there = new TreeSet<>(Set.of("HeadClothsRuns"));
        try (Stream<Path> files = Files.list(TESTS)) {
            files.map(file -> file.getFileName().toString()).filter(name -> name.endsWith("Test.java"))
                .forEach(name -> there.add(name.substring(0, name.length() - ".java".length())));
        }
        Set<String> told = new TreeSet<>(firstColumn("| test |"));
        Checks.due("tests in README.md " + told + ", in the project " + there, true, told.equals(there));
    }

    /** The words in signs of code that rows of a table begin with. */
    private List<String> firstColumn(String heading) {
        List<String> words = new ArrayList<>();
        int from = page.indexOf(heading);
        Checks.due("a table: " + heading, true, from >= 0);
        for (String line : page.substring(Math.max(0, from)).split("\n")) {
            if (!line.startsWith("|")) {
                break;
            }
            Matcher m = Pattern.compile("\\| `([^`]+)` \\|.*").matcher(line);
            if (m.matches()) {
                words.add(m.group(1));
            }
        }
        return words;
    }

    private static Path copyOfProject() throws IOException {
        Path folder = Files.createTempDirectory("readme");
        Path main = Path.of("src/main/java");
        for (Path from : List.of(main, TESTS)) {
            Files.createDirectories(folder.resolve(from));
            try (Stream<Path> files = Files.list(from)) {
                for (Path file : files.toList()) {
                    Files.copy(file, folder.resolve(file));
                }
            }
        }
        return folder;
    }

    private static String run(Path folder, String commands) throws IOException, InterruptedException {
        Process process = new ProcessBuilder("sh", "-e", "-c", commands).directory(folder.toFile()).redirectErrorStream(true).start();
        process.getOutputStream().close();
        String printed = new String(process.getInputStream().readAllBytes());
        Checks.due("exit code of " + commands + printed, 0, process.waitFor());
        return printed;
    }

    private static void delete(Path folder) throws IOException {
        try (Stream<Path> files = Files.walk(folder)) {
            for (Path file : files.sorted(Comparator.reverseOrder()).toList()) {
                Files.delete(file);
            }
        }
    }
}
