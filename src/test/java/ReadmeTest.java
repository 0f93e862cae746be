import java.io.ByteArrayOutputStream;
import java.io.IOException;
import java.io.InputStream;
import java.nio.charset.StandardCharsets;
import java.nio.file.Files;
import java.nio.file.Path;
import java.util.ArrayList;
import java.util.Collections;
import java.util.Comparator;
import java.util.List;
import java.util.regex.Matcher;
import java.util.regex.Pattern;
import java.util.stream.Collectors;
import java.util.stream.Stream;

/** What README.md shows of the use of the class and of its tests is as it says there. */
public final class ReadmeTest {
    private static final Path TESTS = Path.of("src/test/java");

    private final Checker check = new Checker();
    private final String readme;

    private ReadmeTest(String readme) {
        this.readme = readme;
    }

    public static void main(String[] args) throws IOException, InterruptedException {
        ReadmeTest test = new ReadmeTest(Files.readString(Path.of("README.md")));
        test.program();
        test.commands();
        test.names();
        test.answers();
        test.check.finish("ReadmeTest");
    }

    /** The only block of a kind. */
    private String block(String kind) {
        Matcher found = Pattern.compile("(?s)```" + kind + "\n(.*?)```").matcher(readme);
        List<String> blocks = new ArrayList<>();
        while (found.find()) {
            blocks.add(found.group(1));
        }
        check.due("blocks of " + kind, blocks.size(), 1);
        return blocks.isEmpty() ? "" : blocks.get(0);
    }

    private void program() throws IOException, InterruptedException {
        check.about("the program");
        Path folder = Files.createTempDirectory("readme");
        Files.writeString(folder.resolve("Evening.java"), block("java"));
        Path main = Path.of("src/main/java/HedgeMaze.java").toAbsolutePath();
        String compile = command("`(javac [^`]*)`").replace("src/main/java/HedgeMaze.java", main.toString());
        check.due("exit of " + compile, run(folder, compile, new StringBuilder()), 0);
        StringBuilder printed = new StringBuilder();
        String start = command("`(java [^`]*)`");
        check.due("exit of " + start, run(folder, start, printed), 0);
        String due = block("text");
        if (!printed.toString().equals(due)) {
            System.out.println("it prints:\n" + printed + "README.md has:\n" + due);
        }
        check.holds("it prints what stands there", printed.toString().equals(due));
        removeAll(folder);
    }

    private String command(String pattern) {
        Matcher found = Pattern.compile(pattern).matcher(readme);
        boolean isThere = found.find();
        check.holds("there is a command " + pattern, isThere);
        return isThere ? found.group(1) : "false";
    }

    private void commands() throws IOException, InterruptedException {
        check.about("the commands");
        StringBuilder printed = new StringBuilder();
        int exit = run(Path.of("."), "set -e\n" + block("sh"), printed);
        if (exit != 0) {
            System.out.println(printed);
        }
        check.due("their exit", exit, 0);
        check.holds(".ci/run can be run", Files.isExecutable(Path.of(".ci/run")));
    }

    private static int run(Path folder, String commands, StringBuilder printed)
            throws IOException, InterruptedException {
        Process process = new ProcessBuilder("sh", "-c", commands).directory(folder.toFile())
            .redirectErrorStream(true).start();
        process.getOutputStream().close();
        try (InputStream in = process.getInputStream()) {
            ByteArrayOutputStream all = new ByteArrayOutputStream();
            in.transferTo(all);
            printed.append(all.toString(StandardCharsets.UTF_8));
        }
        return process.waitFor();
    }

    private static void removeAll(Path folder) throws IOException {
        try (Stream<Path> paths = Files.walk(folder)) {
            for (Path path : paths.sorted(Comparator.reverseOrder()).collect(Collectors.toList())) {
                Files.delete(path);
            }
        }
    }

    /** Each test has its line, and each file that is named is there. */
    private void names() throws IOException {
        check.about("the names");
        List<String> tests = new ArrayList<>();
        try (Stream<Path> files = Files.list(TESTS)) {
            files.map(file -> file.getFileName().toString().replace(".java", "")).forEach(tests::add);
        }
        Collections.sort(tests);
        for (String test : tests) {
            check.holds(test + " is named", readme.contains("`" + test + "`"));
        }
        Matcher named = Pattern.compile("`(\\w+Test)`").matcher(readme);
        while (named.find()) {
            check.holds(named.group(1) + " is there", tests.contains(named.group(1)));
        }
        Matcher path = Pattern.compile("`((?:\\.\\./|\\.ci/|src/)[\\w./]+)`").matcher(readme);
        while (path.find()) {
            check.holds(path.group(1) + " is there", Files.exists(Path.of(path.group(1))));
        }
    }

    /** Each number of the table is one that the class answers, with a call for what it says. */
    private void answers() {
        check.about("the table of answers");
        HedgeMaze x = Checker.told("maze wide 2 long 2; hedge at 0 0 east;");
        Checker.fill(x, 0, 1, 0);
        Checker.fill(x, 1, 0, 0, 1);
        int[] got = {x.gate(0), x.gate(4), x.row(2, 0, -1), fault(), x.out(0, 0, 1), x.back(0),
            x.nights(1), x.paste(0, 0, 1, 0, 1)};
        for (int i = 0; i < got.length; i++) {
            check.due("row " + i, got[i], -1 - i);
            check.holds("a row of " + got[i], readme.contains("\n| " + got[i] + " | "));
        }
        check.holds("no row more", !readme.contains("\n| " + (-1 - got.length) + " | "));
        check.due("a number that a row has not", x.write(0, 1, 0), -7);
        check.due("a slot that has nothing", x.write(3, 0, 0), -6);
        check.due("no maze", new HedgeMaze().sides(), -2);
        for (int i = 0; i < 99; i++) {
            check.due("night " + i, x.night(i % 2, 1 - i % 2), 0);
        }
        check.due("the 100th night", x.night(1, 0), -3);
    }

    private static int fault() {
        HedgeMaze x = new HedgeMaze();
        Checker.lay(x, "maze;");
        return x.maze();
    }
}
