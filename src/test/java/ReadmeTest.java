import java.io.IOException;
import java.lang.reflect.Method;
import java.lang.reflect.Modifier;
import java.nio.charset.StandardCharsets;
import java.nio.file.Files;
import java.nio.file.Path;
import java.util.ArrayList;
import java.util.Arrays;
import java.util.Comparator;
import java.util.List;
import java.util.stream.Collectors;
import java.util.stream.Stream;

/**
 * What README.md shows is so: its example is the file that it names, runs by the commands that it gives and
 * prints what it says; its tables name every call and constant of the face. Runs in the project's folder.
 */
public final class ReadmeTest {
    private static final List<String> SOURCES = List.of("src/main/java/JoinedStores.java", "src/example/java/Example.java");

    private static int wrong;

    private static void hold(boolean holds, String what) {
        if (!holds) {
            wrong++;
            System.out.println("does not hold: " + what);
        }
    }

    public static void main(String[] args) throws IOException, InterruptedException {
        String readme = read(Path.of("README.md"));
        hold(block(readme, "java").equals(read(Path.of(SOURCES.get(1)))), "the example is the file " + SOURCES.get(1));
        exampleRuns(block(readme, "sh"), block(readme, "text"));
        everyCallIsNamed(readme);
        System.out.println(wrong == 0 ? "README.md is as it is" : wrong + " things in README.md are not so");
        if (wrong != 0) {
            System.exit(1);
        }
    }

    private static String read(Path path) throws IOException {
        return Files.readString(path, StandardCharsets.UTF_8);
    }

    /** The text between the fences of the only block of that sort. */
    private static String block(String readme, String sort) {
        String fence = "\n```" + sort + "\n";
        int start = readme.indexOf(fence);
        int end = start < 0 ? -1 : readme.indexOf("\n```\n", start + fence.length());
        boolean isOnly = end >= 0 && readme.indexOf(fence, end) < 0;
        hold(isOnly, "there is one block of " + sort);
        return isOnly ? readme.substring(start + fence.length(), end + 1) : "";
    }

    /** In a folder of its own, with nothing in it but what the commands name. */
    private static void exampleRuns(String commands, String printed) throws IOException, InterruptedException {
        Path folder = Files.createTempDirectory("readme");
        try {
            for (String source : SOURCES) {
                Files.createDirectories(folder.resolve(source).getParent());
                Files.copy(Path.of(source), folder.resolve(source));
            }
            StringBuilder output = new StringBuilder();
            for (String command : commands.split("\n")) {
                output.append(run(folder, command));
            }
            hold(!printed.isEmpty() && output.toString().equals(printed), "the example prints\n" + printed + "but it printed\n" + output);
        } finally {
            remove(folder);
        }
    }

    private static String run(Path folder, String command) throws IOException, InterruptedException {
        Process process = new ProcessBuilder(command.split(" ")).directory(folder.toFile()).redirectErrorStream(true).start();
        String output = new String(process.getInputStream().readAllBytes(), StandardCharsets.UTF_8);
        hold(process.waitFor() == 0, command + " ends well");
        return output;
    }

    private static void remove(Path folder) throws IOException {
        List<Path> paths;
        try (Stream<Path> walk = Files.walk(folder)) {
            paths = walk.sorted(Comparator.reverseOrder()).collect(Collectors.toList());
        }
        for (Path path : paths) {
            Files.delete(path);
        }
    }

    private static void everyCallIsNamed(String readme) throws IOException {
        for (String call : callsOfTheClass()) {
            hold(readme.contains("| `" + call + "` |"), "a table has a row of " + call);
        }
        for (String constant : new String[] {"NONE", "BAD", "STATE", "FULL"}) {
            hold(readme.contains("| `" + constant + "` |"), "a table has a row of " + constant);
        }
        hold(readme.contains("`new JoinedStores()`"), "the constructor is named");
    }

    /** With the names of their parameters, which the class alone doesn't tell, from its text. */
    private static List<String> callsOfTheClass() throws IOException {
        List<String> calls = new ArrayList<>();
        for (String line : read(Path.of(SOURCES.get(0))).split("\n")) {
            if (line.matches("    public (int|long) \\w+\\(.*\\) \\{")) {
                calls.add(line.substring("    public ".length(), line.length() - " {".length()));
            }
        }
        long publics = Arrays.stream(JoinedStores.class.getDeclaredMethods()).map(Method::getModifiers)
            .filter(Modifier::isPublic).count();
        hold(calls.size() == publics, "all calls of the face are found in its text: " + calls);
        return calls;
    }
}
