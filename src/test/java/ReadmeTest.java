import java.io.IOException;
import java.nio.charset.StandardCharsets;
import java.nio.file.Files;
import java.nio.file.Path;
import java.util.ArrayList;
import java.util.Comparator;
import java.util.List;
import java.util.TreeSet;
import java.util.regex.Matcher;
import java.util.regex.Pattern;
import java.util.stream.Stream;

/** What README.md says is tried: its program, its commands, its constants, and each answer in its runs of calls. */
public final class ReadmeTest {
    private static final Path README = Path.of("README.md");
    private static final Path TESTS = Path.of("src/test/java");
    private static final String OWN_CLASSES = "### With your own classes";
    private static final String CONSTANTS = "### What an answer means";
    private static final String RUNS = "### Runs of calls with their answers";
    private static final String RUNNING_TESTS = "## How to run its tests";
    private static final Pattern CONSTANT = Pattern.compile("\\| `(\\w+)` \\| (-?\\d+) \\|.*");
    private static final Pattern ANSWERED =
            Pattern.compile("(remote\\.\\w+\\(.*\\));\\s+// (-?\\d+)(?:, ([A-Z_]+))?(?:: .*)?");
    private static final int LEAST_ANSWERS = 50;

    private static int wrong = 0;

    private ReadmeTest() { }

    public static void main(String[] args) throws Exception {
        List<String> readme = Files.readAllLines(README);
        Path folder = Files.createTempDirectory("readme");
        try {
            copySources(folder);
            ownProgram(section(readme, OWN_CLASSES), folder);
            constants(section(readme, CONSTANTS));
            int answers = runsOfCalls(section(readme, RUNS), folder);
            hold(answers >= LEAST_ANSWERS, "there are only " + answers + " answers in the runs of calls");
            commandsOfTests(section(readme, RUNNING_TESTS), folder);
            namesOfTests(section(readme, RUNNING_TESTS));
            System.out.println(wrong == 0 ? "README.md holds, with " + answers + " answers"
                    : wrong + " things in README.md do not hold");
        } finally {
            remove(folder);
        }
        if (wrong != 0) {
            System.exit(1);
        }
    }

    private static void hold(boolean holds, String otherwise) {
        if (!holds) {
            wrong++;
            System.out.println(otherwise);
        }
    }

    // ---- parts of the page

    /** The lines from a headline to the next one. */
    private static List<String> section(List<String> readme, String headline) {
        int start = readme.indexOf(headline);
        hold(start >= 0, "README.md has no headline " + headline);
        int end = start + 1;
        while (end < readme.size() && !readme.get(end).startsWith("#")) {
            end++;
        }
        return readme.subList(start + 1, end);
    }

    /** The blocks between ```language and ```. */
    private static List<List<String>> blocks(List<String> section, String language) {
        List<List<String>> blocks = new ArrayList<>();
        List<String> open = null;
        for (String line : section) {
            if (open == null && line.equals("```" + language)) {
                open = new ArrayList<>();
            } else if (open != null && line.equals("```")) {
                blocks.add(open);
                open = null;
            } else if (open != null) {
                open.add(line);
            }
        }
        return blocks;
    }

    /** The lines that are indented and stand in no block. */
    private static List<String> commands(List<String> section) {
        List<String> commands = new ArrayList<>();
        boolean inBlock = false;
        for (String line : section) {
            if (line.startsWith("```")) {
                inBlock = !inBlock;
            } else if (!inBlock && line.startsWith("    ")) {
                commands.add(line.strip());
            }
        }
        return commands;
    }

    // ---- what is tried

    private static void ownProgram(List<String> section, Path folder) throws Exception {
        List<String> program = blocks(section, "java").get(0);
        Files.write(folder.resolve("Mine.java"), program);
        String printed = "";
        for (String command : commands(section)) {
            printed = run(folder, command);
        }
        List<String> due = blocks(section, "text").get(0);
        hold(printed.lines().toList().equals(due), "the program printed " + printed + " and not " + due);
    }

    private static void constants(List<String> section) throws ReflectiveOperationException {
        int found = 0;
        for (String line : section) {
            Matcher row = CONSTANT.matcher(line);
            if (row.matches()) {
                found++;
                hold(constant(row.group(1)) == Integer.parseInt(row.group(2)), "another value: " + line);
            }
        }
        hold(found == 4, found + " constants are told");
    }

    private static int constant(String name) throws ReflectiveOperationException {
        return PulseRemote.class.getField(name).getInt(null);
    }

    /** Makes a program of the runs, in which each call with an answer is checked; answers how many there are. */
    private static int runsOfCalls(List<String> section, Path folder) throws Exception {
        List<String> program = new ArrayList<>();
        program.add("public class Runs {");
        int answers = 0;
        int runs = 0;
        for (List<String> block : blocks(section, "java")) {
            program.add("    static void run" + runs + "() {");
            for (String line : block) {
                Matcher call = ANSWERED.matcher(line);
                hold(!line.startsWith("remote.") || call.matches(), "no answer is told: " + line);
                if (call.matches()) {
                    answers++;
                    program.add(check(call));
                } else {
                    program.add(line);
                }
            }
            program.add("    }");
            runs++;
        }
        program.add("    static void check(String call, int got, int due) {");
        program.add("        if (got != due) System.out.println(call + \" answered \" + got + \", told is \" + due);");
        program.add("    }");
        program.add("    public static void main(String[] args) {");
        for (int i = 0; i < runs; i++) {
            program.add("        run" + i + "();");
        }
        program.add("    }");
        program.add("}");
        Files.write(folder.resolve("Runs.java"), program);
        run(folder, "javac -d runs src/main/java/PulseRemote.java Runs.java");
        String printed = run(folder, "java -cp runs Runs");
        hold(printed.isEmpty(), printed);
        return answers;
    }

    private static String check(Matcher call) throws ReflectiveOperationException {
        int due = Integer.parseInt(call.group(2));
        if (call.group(3) != null) {
            hold(constant(call.group(3)) == due, "another constant: " + call.group());
        } else {
            hold(due >= 0 || due <= -10, "an error without its name: " + call.group());
        }
        return "check(\"" + call.group(1) + "\", " + call.group(1) + ", " + due + ");";
    }

    private static void commandsOfTests(List<String> section, Path folder) throws Exception {
        for (String command : commands(section)) {
            if (command.equals(".ci/run")) {
                hold(Files.isExecutable(Path.of(command)), command + " cannot be run");
            } else {
                run(folder, command);
            }
        }
    }

    /** Each test in the folder is told, and each that is told is there. */
    private static void namesOfTests(List<String> section) throws IOException {
        TreeSet<String> told = new TreeSet<>();
        Matcher name = Pattern.compile("`(\\w+Test)`").matcher(String.join("\n", section));
        while (name.find()) {
            told.add(name.group(1));
        }
        TreeSet<String> there = new TreeSet<>();
        try (Stream<Path> files = Files.list(TESTS)) {
            files.map(file -> file.getFileName().toString()).filter(file -> file.endsWith("Test.java"))
                    .forEach(file -> there.add(file.substring(0, file.length() - ".java".length())));
        }
        hold(told.equals(there), "told are the tests " + told + ", there are " + there);
    }

    // ---- folders and commands

    private static void copySources(Path folder) throws IOException {
        List<Path> sources;
        try (Stream<Path> files = Files.walk(Path.of("src"))) {
            sources = files.filter(file -> file.toString().endsWith(".java")).toList();
        }
        for (Path source : sources) {
            Path copy = folder.resolve(source);
            Files.createDirectories(copy.getParent());
            Files.copy(source, copy);
        }
    }

    /** Runs a command of the page in a folder; answers what it printed. */
    private static String run(Path folder, String command) throws IOException, InterruptedException {
        // what java itself tells of its options goes to the error stream, and is not the program's
        Process process = new ProcessBuilder("sh", "-c", command)
                .directory(folder.toFile()).redirectError(ProcessBuilder.Redirect.INHERIT).start();
        String printed = new String(process.getInputStream().readAllBytes(), StandardCharsets.UTF_8);
        int code = process.waitFor();
        hold(code == 0, command + " ended with " + code + ". " + printed);
        return printed;
    }

    private static void remove(Path folder) throws IOException {
        List<Path> all;
        try (Stream<Path> files = Files.walk(folder)) {
            all = files.sorted(Comparator.reverseOrder()).toList();
        }
        for (Path path : all) {
            Files.delete(path);
        }
    }
}
