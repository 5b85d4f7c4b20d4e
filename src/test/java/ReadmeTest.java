import java.io.File;
import java.io.IOException;
import java.lang.reflect.Method;
import java.lang.reflect.Modifier;
import java.nio.file.Files;
import java.nio.file.Path;
import java.util.ArrayList;
import java.util.List;
import java.util.TreeSet;
import java.util.regex.Matcher;
import java.util.regex.Pattern;
import java.util.stream.Stream;

/** README.md holds: its calls answer what it shows, its commands run and are those of .ci/run. */
public final class ReadmeTest {
    private static final String RUN = ".ci/run";
    private static final String SHARED_TEST = "AntLeaseRuns";
    private static final Pattern SHOWN =
            Pattern.compile("\\s*(\\w+\\.(\\w+)\\(.*?\\));\\s+// (-?\\d+|UNKNOWN|BAD|LATE|FULL|NONE)\\b.*");
    private static final Pattern CALL = Pattern.compile(".*\\bx\\.\\w+\\(.*");
    /** The one call that is shown without its answer, as it stands in a loop. */
    private static final String IN_LOOP = "    x.write(c);";

    private final Readme readme = new Readme();
    private final Path work = Files.createTempDirectory("readme");
    private final List<String> wrong = new ArrayList<>();

    private ReadmeTest() throws IOException {
    }

    public static void main(String[] args) throws IOException, InterruptedException {
        ReadmeTest test = new ReadmeTest();
        try {
            test.runCalls();
            test.lookAtCommands();
            test.runCommands();
            test.lookAtNames();
        } finally {
            test.clear();
        }
        test.wrong.forEach(System.out::println);
        System.exit(test.wrong.isEmpty() ? 0 : 1);
    }

    /** The code that is shown becomes a test, which is compiled and run. */
    private void runCalls() throws IOException, InterruptedException {
        TreeSet<String> missing = namesOfFace();
        StringBuilder code = new StringBuilder("final class Shown {\n");
        code.append("public static void main(String[] args) {\nCheck check = new Check();\n");
        for (String line : readme.lines("java")) {
            Matcher shown = SHOWN.matcher(line);
            if (shown.matches()) {
                missing.remove(shown.group(2));
                code.append(asCheck(shown.group(1), shown.group(3)));
            } else if (CALL.matcher(line).matches() && !line.equals(IN_LOOP)) {
                wrong.add("README.md shows no answer: " + line);
            } else {
                code.append(line).append('\n');
            }
        }
        code.append("check.end();\n}\n}\n");
        if (!missing.isEmpty()) {
            wrong.add("README.md doesn't show " + missing);
        }
        Path source = Files.writeString(work.resolve("Shown.java"), code);
        String classes = System.getProperty("java.class.path");
        run("javac", "-cp", classes, "-d", work.toString(), source.toString());
        run("java", "-cp", work + File.pathSeparator + classes, "Shown");
    }

    private static String asCheck(String call, String answer) {
        String due = Character.isLetter(answer.charAt(0)) ? "AntLease." + answer : answer + "L";
        return "check.due(\"README.md: " + call.replace("\"", "\\\"") + "\", " + call + ", " + due + ");\n";
    }

    private static TreeSet<String> namesOfFace() {
        TreeSet<String> names = new TreeSet<>();
        for (Method method : AntLease.class.getDeclaredMethods()) {
            if (Modifier.isPublic(method.getModifiers())) {
                names.add(method.getName());
            }
        }
        return names;
    }

    /** The way to run the tests is the script, and for one of them the script's own commands. */
    private void lookAtCommands() throws IOException {
        List<String> shown = readme.lines("sh");
        if (!shown.contains(RUN) || !Files.isExecutable(Path.of(RUN))) {
            wrong.add("README.md doesn't show " + RUN + ", or it can't be run");
        }
        List<Pattern> ways = commandsOfScript();
        boolean[] told = new boolean[ways.size()];
        for (String command : shown) {
            boolean known = command.equals(RUN) || command.equals("javac -d out src/main/java/AntLease.java");
            for (int i = 0; i < told.length; i++) {
                boolean like = ways.get(i).matcher(command).matches();
                told[i] |= like;
                known |= like;
            }
            if (!known) {
                wrong.add("README.md shows what " + RUN + " doesn't do: " + command);
            }
        }
        for (int i = 0; i < told.length; i++) {
            if (!told[i]) {
                wrong.add(RUN + " does what README.md doesn't show: " + ways.get(i));
            }
        }
    }

    /** The script's javac and java, with a word for each of its variables. */
    private static List<Pattern> commandsOfScript() throws IOException {
        List<Pattern> commands = new ArrayList<>();
        String script = Files.readString(Path.of(RUN));
        Matcher command = Pattern.compile("(?m)^\\s*(?:if )?(javac? .*?)(?: \\|\\| exit 1|; then)$").matcher(script);
        while (command.find()) {
            String told = command.group(1).replace("\"$main\"", "src/main/java/AntLease.java");
            StringBuilder pattern = new StringBuilder();
            for (String word : told.split(" ")) {
                pattern.append(pattern.length() == 0 ? "" : " ");
                pattern.append(word.startsWith("\"$") ? "\\S+" : Pattern.quote(word));
            }
            commands.add(Pattern.compile(pattern.toString()));
        }
        return commands;
    }

    /**
     * Each command but the script itself, which would run this test again, and those for a shared
     * test, which the script runs by the same commands.
     */
    private void runCommands() throws IOException, InterruptedException {
        String out = work.resolve("out").toString();
        for (String command : readme.lines("sh")) {
            if (!command.equals(RUN) && !command.contains(SHARED_TEST)) {
                run("sh", "-c", command.replace(" out ", " " + out + " "));
            }
        }
    }

    private void lookAtNames() throws IOException {
        TreeSet<String> tests = new TreeSet<>();
        try (Stream<Path> files = Files.list(Path.of("src/test/java"))) {
            files.map(file -> file.getFileName().toString()).filter(name -> name.endsWith("Test.java"))
                    .forEach(name -> tests.add(name.substring(0, name.length() - ".java".length())));
        }
        if (!tests.equals(readme.tests())) {
            wrong.add("README.md names " + readme.tests() + ", there are " + tests);
        }
        for (String path : readme.paths()) {
            // what stands outside the project is not its own to hold to
            if (!path.startsWith("../") && !Files.exists(Path.of(path))) {
                wrong.add("README.md names " + path + ", which is not there");
            }
        }
    }

    private void run(String... command) throws IOException, InterruptedException {
        if (new ProcessBuilder(command).inheritIO().start().waitFor() != 0) {
            wrong.add("README.md: failed: " + String.join(" ", command));
        }
    }

    private void clear() throws IOException {
        List<Path> all;
        try (Stream<Path> files = Files.walk(work)) {
            all = files.sorted((a, b) -> b.compareTo(a)).toList();
        }
        for (Path path : all) {
            Files.delete(path);
        }
    }
}
