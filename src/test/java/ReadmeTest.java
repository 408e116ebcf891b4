import java.io.ByteArrayOutputStream;
import java.io.IOException;
import java.io.InputStream;
import java.nio.charset.StandardCharsets;
import java.nio.file.Files;
import java.nio.file.Path;
import java.util.ArrayList;
import java.util.List;
import java.util.Set;
import java.util.TreeSet;
import java.util.regex.Matcher;
import java.util.regex.Pattern;
import java.util.stream.Stream;

/** What README.md says of the use of the class and of the running of its tests. */
public final class ReadmeTest {
    private static final Path README = Path.of("README.md");
    private static final Path DOCUMENT = Path.of("../shared/DOC.md");
    private static final Path TESTS = Path.of("src/test/java");
    private static final Path RUN = Path.of(".ci/run");
    private static final String[] FINDINGS = {"BEYOND", "FULL", "KIND", "NONE", "STATE", "MISSING", "SIZE"};

    private static int wrong = 0;

    private static void hold(boolean holds, String what) {
        if (!holds) {
            wrong++;
            System.out.println("not so: " + what);
        }
    }

    private static List<String> all(String pattern, String text) {
        List<String> found = new ArrayList<>();
        Matcher m = Pattern.compile(pattern, Pattern.DOTALL | Pattern.MULTILINE).matcher(text);
        while (m.find()) {
            found.add(m.group(1));
        }
        return found;
    }

    /** What a command prints, with its errors; it has to end with 0. */
    private static String run(List<String> command) throws IOException, InterruptedException {
        Process process = new ProcessBuilder(command).redirectErrorStream(true).start();
        ByteArrayOutputStream printed = new ByteArrayOutputStream();
        try (InputStream in = process.getInputStream()) {
            in.transferTo(printed);
        }
        String text = printed.toString(StandardCharsets.UTF_8);
        hold(process.waitFor() == 0, String.join(" ", command) + " ends with 0: " + text);
        return text;
    }

    private static void remove(Path directory) throws IOException {
        List<Path> inside = new ArrayList<>();
        try (Stream<Path> walk = Files.walk(directory)) {
            walk.forEach(inside::add);
        }
        for (int i = inside.size() - 1; i >= 0; i--) {
            Files.delete(inside.get(i));
        }
    }

    private static void examplePrintsWhatItSays(String readme, Path scratch) throws IOException, InterruptedException {
        List<String> examples = all("^```java\n(.*?)^```", readme);
        hold(examples.size() == 1, "one example");
        for (String example : examples) {
            Path file = scratch.resolve("Example.java");
            Files.writeString(file, example);
            run(List.of("javac", "-d", scratch.toString(), "src/main/java/UnfinishedFair.java", file.toString()));
            String printed = run(List.of("java", "-cp", scratch.toString(), "Example"));
            List<String> said = all("println\\([^\n]*// (-?\\d+)$", example);
            hold(said.size() == all("(println)", example).size(), "each line that prints says what");
            hold(List.of(printed.strip().split("\\s+")).equals(said), "it prints " + said + ", not " + printed);
        }
    }

    private static void callsAreTheFace(String readme) throws IOException {
        Set<String> told = new TreeSet<>(all("`(\\w+\\([\\w, ]*\\))`", readme));
        Set<String> due = new TreeSet<>();
        if (!Files.exists(DOCUMENT)) {
            return;
        }
        for (String call : all("^    public (?:int|long) (\\w+\\([\\w, ]*\\));", Files.readString(DOCUMENT))) {
            due.add(call.replaceAll("\\b(int|long) ", ""));
        }
        hold(due.size() == 37 && told.equals(due), "the calls are " + due + ", not " + told);
    }

    private static void findingsAreTheDocuments(String readme) throws IOException {
        String document = Files.exists(DOCUMENT) ? Files.readString(DOCUMENT) : "";
        for (int i = 0; i < FINDINGS.length; i++) {
            int answer = -1000000001 - i;
            hold(readme.contains("| " + FINDINGS[i] + " | " + answer + " |"), "the page says " + FINDINGS[i]);
            hold(document.isEmpty() || document.contains(answer + " " + FINDINGS[i]), FINDINGS[i] + " is " + answer);
        }
    }

    /** A call of .ci/run in here would run this test again, and so on: it is only looked at. */
    private static void commandsRun(String readme, Path scratch) throws IOException, InterruptedException {
        int single = 0;
        for (String block : all("^```sh\n(.*?)^```", readme)) {
            for (String line : block.strip().split("\n")) {
                if (line.equals(RUN.toString())) {
                    hold(Files.isExecutable(RUN), RUN + " can be run");
                    continue;
                }
                single++;
                run(List.of(line.replaceAll("\\bout\\b", scratch.resolve("single").toString()).split(" ")));
            }
        }
        hold(single == 2, "two commands for a single test");
    }

    private static void listNamesEachTest(String readme) throws IOException {
        Set<String> told = new TreeSet<>(all("`(\\w+Test)`", readme));
        Set<String> due = new TreeSet<>();
        try (Stream<Path> files = Files.list(TESTS)) {
            files.forEach(file -> due.add(file.getFileName().toString().replace(".java", "")));
        }
        hold(told.equals(due), "the tests are " + due + ", not " + told);
    }

    private static void pathsAreThere(String readme) {
        for (String path : all("`((?:src|\\.ci)/[\\w./]+)`", readme)) {
            hold(Files.exists(Path.of(path)), path + " is there");
        }
    }

    public static void main(String[] args) throws IOException, InterruptedException {
        String readme = Files.readString(README);
        Path scratch = Files.createTempDirectory("readme");
        try {
            examplePrintsWhatItSays(readme, scratch);
            commandsRun(readme, scratch);
        } finally {
            remove(scratch);
        }
        callsAreTheFace(readme);
        findingsAreTheDocuments(readme);
        listNamesEachTest(readme);
        pathsAreThere(readme);
        System.out.println(wrong == 0 ? "what README.md says is so" : wrong + " not as due");
        if (wrong != 0) {
            System.exit(1);
        }
    }
}
