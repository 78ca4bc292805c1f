import java.io.File;
import java.nio.charset.StandardCharsets;
import java.nio.file.Files;
import java.nio.file.Path;
import java.util.ArrayList;
import java.util.List;
import java.util.Set;
import java.util.TreeSet;
import java.util.concurrent.TimeUnit;
import java.util.regex.Matcher;
import java.util.regex.Pattern;

/** What README.md says is so: the example's answers, the commands, the tests; run from the project's root. */
public final class ReadmeTest {
    private static final Pattern BLOCK = Pattern.compile("(?s)\n```(\\w+)\n(.*?)\n```\n");
    private static final Pattern ANSWER = Pattern.compile("System\\.out\\.println\\(.*\\); +// (-?\\d+)\\b.*");
    private static final Pattern NAMED = Pattern.compile("`(\\w+)`");
    private static final Check check = new Check("ReadmeTest");

    public static void main(String[] args) throws Exception {
        String page = Files.readString(Path.of("README.md"), StandardCharsets.ISO_8859_1);
        List<String> programs = blocks(page, "java");
        List<String> commands = blocks(page, "sh");
        check.due("programs", programs.size(), 1);
        check.due("commands to compile the example, to run all tests, to run one", commands.size(), 3);
        if (programs.size() == 1 && commands.size() == 3) {
            example(programs.get(0), commands.get(0));
            check.holds("all tests are run by sh .ci/run", commands.get(1).equals("sh .ci/run"));
            check.holds(".ci/run is there", Files.exists(Path.of(".ci/run")));
            one(commands.get(2));
        }
        named(page);
        paths(page);
        check.end();
    }

    private static List<String> blocks(String page, String kind) {
        List<String> all = new ArrayList<>();
        Matcher m = BLOCK.matcher(page);
        while (m.find()) {
            if (m.group(1).equals(kind)) {
                all.add(m.group(2));
            }
        }
        return all;
    }

    /** As a reader would do it: the class and the example in one folder, then the page's commands. */
    private static void example(String program, String command) throws Exception {
        Path folder = Files.createTempDirectory("readme");
        Files.copy(Path.of("src/main/java/YawnRoute.java"), folder.resolve("YawnRoute.java"));
        Files.writeString(folder.resolve("Example.java"), program);
        List<String> answers = output(command, folder.toFile());
        List<String> told = new ArrayList<>();
        for (String line : program.split("\n")) {
            Matcher m = ANSWER.matcher(line.trim());
            if (m.matches()) {
                told.add(m.group(1));
            } else {
                check.holds("an answer is told: " + line, !line.contains("println"));
            }
        }
        check.holds("the example asks a lot", told.size() > 20);
        check.holds("the example answers " + answers + ", the page says " + told, answers.equals(told));
        clear(folder);
    }

    private static void one(String command) throws Exception {
        List<String> lines = output(command + "\nrm -r \"$out\"", new File("."));
        boolean ran = lines.stream().anyMatch(line -> line.matches("ModelTest: \\d+ answers compared"));
        check.holds("one test alone can be run: " + lines, ran);
    }

    private static List<String> output(String command, File folder) throws Exception {
        Path out = Files.createTempFile("readme", ".txt");
        Process p = new ProcessBuilder("sh", "-e", "-c", command).directory(folder)
            .redirectErrorStream(true).redirectOutput(out.toFile()).start();
        boolean ended = p.waitFor(300, TimeUnit.SECONDS);
        if (!ended) {
            p.destroyForcibly();
        }
        List<String> lines = Files.readAllLines(out, StandardCharsets.ISO_8859_1);
        check.holds(command + " ends well: " + lines, ended && p.exitValue() == 0);
        Files.delete(out);
        return lines;
    }

    /** Each test of the project is named on the page, and each that is named there is one. */
    private static void named(String page) throws Exception {
        Set<String> onPage = new TreeSet<>();
        Matcher m = NAMED.matcher(page);
        while (m.find()) {
            if (m.group(1).endsWith("Test") && m.group(1).length() > 4) {
                onPage.add(m.group(1));
            }
        }
        Set<String> tests = new TreeSet<>();
        for (String name : names(Path.of("src/test/java"))) {
            if (name.endsWith("Test.java")) {
                tests.add(name.replace(".java", ""));
            }
        }
        check.holds("the page names the tests " + tests + ", not " + onPage, onPage.equals(tests));
    }

    private static void paths(String page) {
        for (String path : new String[] {"src/main/java/YawnRoute.java", "../shared/DOC.md", "../shared/LANGUAGE.md",
            "src/test/java", "../shared/tests"}) {
            check.holds("the page tells of " + path, page.contains("`" + path + "`"));
            check.holds(path + " is there", Files.exists(Path.of(path)));
        }
    }

    private static List<String> names(Path folder) {
        String[] names = folder.toFile().list();
        return names == null ? List.of() : List.of(names);
    }

    private static void clear(Path folder) throws Exception {
        for (String name : names(folder)) {
            Files.delete(folder.resolve(name));
        }
        Files.delete(folder);
    }
}
