import java.io.File;
import java.io.IOException;
import java.nio.charset.StandardCharsets;
import java.nio.file.Files;
import java.nio.file.Path;
import java.util.ArrayList;
import java.util.List;
import java.util.TreeSet;
import java.util.regex.Matcher;
import java.util.regex.Pattern;
import java.util.stream.Stream;

/**
 * What README.md says works as it is written there: its commands are run in a copy of the project, so that they
 * leave nothing behind. It is run from the project's directory, as the README says of each test.
 */
public final class ReadmeTest {

    private static final String CI = ".ci/run\n";

    public static void main(String[] args) throws Exception {
        String readme = Files.readString(Path.of("README.md"));
        Path room = Files.createTempDirectory("readme");
        try {
            Path project = copyOfProject(room);
            exampleWorks(readme, project);
            commandsOfTestsWork(readme, project);
        } finally {
            remove(room);
        }
        tableNamesEveryTest(readme);
        Due.end("ReadmeTest");
    }

    private static void exampleWorks(String readme, Path project) throws Exception {
        Files.writeString(project.resolve("Example.java"), blocks(readme, "java").get(0));
        Due.is("what the example prints", printed(blocks(readme, "sh").get(0), project),
                blocks(readme, "text").get(0));
    }

    private static void commandsOfTestsWork(String readme, Path project) throws Exception {
        List<String> commands = blocks(readme, "sh");
        Due.is("the README names .ci/run", commands.contains(CI), true);
        Due.is(".ci/run can be executed", Files.isExecutable(Path.of(".ci/run")), true);
        for (String command : commands.subList(1, commands.size())) {
            // .ci/run runs this test, so it is not run from here
            if (!command.equals(CI)) {
                printed(command, project);
            }
        }
    }

    private static void tableNamesEveryTest(String readme) throws IOException {
        TreeSet<String> named = new TreeSet<>();
        Matcher row = Pattern.compile("^\\| `(\\w+Test)` \\|", Pattern.MULTILINE).matcher(readme);
        while (row.find()) {
            named.add(row.group(1));
        }
        TreeSet<String> there = new TreeSet<>();
        try (Stream<Path> files = Files.list(Path.of("src/test/java"))) {
            files.map(f -> f.getFileName().toString()).filter(f -> f.endsWith("Test.java"))
                    .forEach(f -> there.add(f.substring(0, f.length() - ".java".length())));
        }
        Due.is("the tests that the README names", named, there);
    }

    private static List<String> blocks(String readme, String kind) {
        List<String> found = new ArrayList<>();
        Matcher block = Pattern.compile("^```" + kind + "\n(.*?)^```$", Pattern.MULTILINE | Pattern.DOTALL)
                .matcher(readme);
        while (block.find()) {
            found.add(block.group(1));
        }
        return found;
    }

    private static String printed(String command, Path directory) throws Exception {
        File said = Files.createTempFile(directory, "said", ".txt").toFile();
        Process process = new ProcessBuilder("sh", "-e", "-c", command).directory(directory.toFile())
                .redirectError(ProcessBuilder.Redirect.INHERIT).redirectOutput(said).start();
        int code = process.waitFor();
        String text = Files.readString(said.toPath(), StandardCharsets.UTF_8);
        Due.is("the code of " + command, code, 0);
        return text;
    }

    private static Path copyOfProject(Path room) throws IOException {
        Path project = Files.createDirectory(room.resolve("project"));
        copy(Path.of("src"), project.resolve("src"));
        Files.createDirectory(room.resolve("shared"));
        copy(Path.of("../shared/tests"), room.resolve("shared/tests"));
        return project;
    }

    private static void copy(Path from, Path to) throws IOException {
        try (Stream<Path> paths = Files.walk(from)) {
            for (Path path : (Iterable<Path>) paths::iterator) {
                Path copied = to.resolve(from.relativize(path));
                if (Files.isDirectory(path)) {
                    Files.createDirectory(copied);
                } else {
                    Files.write(copied, Files.readAllBytes(path));
                }
            }
        }
    }

    private static void remove(Path room) throws IOException {
        List<Path> paths = new ArrayList<>();
        try (Stream<Path> found = Files.walk(room)) {
            found.forEach(path -> paths.add(0, path));
        }
        for (Path path : paths) {
            Files.delete(path);
        }
    }
}
