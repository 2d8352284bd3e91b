import java.io.IOException;
import java.nio.file.Files;
import java.nio.file.Path;
import java.util.ArrayList;
import java.util.Comparator;
import java.util.List;
import java.util.regex.Matcher;
import java.util.regex.Pattern;
import java.util.stream.Stream;

/** Runs the example of README.md as it stands there, with its commands, and compares what it prints. */
public final class ReadmeTests {
    private static final Path README = Path.of("README.md");
    private static final Path SOURCE = Path.of("src/main/java/TandemExchange.java");
    private static final Pattern ANSWER = Pattern.compile(".*System\\.out\\.println\\(.*\\); +// ([-\\w]+).*");

    private static final Check check = new Check();

    public static void main(String[] args) throws IOException, InterruptedException {
        check.part("README.md");
        String readme = Files.readString(README);
        List<String> example = block(readme, "java");
        List<String> commands = block(readme, "sh");
        List<String> due = answers(example);
        Path room = Files.createTempDirectory("readme");
        try {
            List<String> printed = run(room, example, commands);
            check.is(due.size(), printed.size(), "the number of lines that are printed");
            for (int i = 0; i < due.size() && i < printed.size(); i++) {
                check.that(due.get(i).equals(printed.get(i)),
                        "line " + i + " is '" + printed.get(i) + "', due is '" + due.get(i) + "'");
            }
        } finally {
            remove(room);
        }
        check.end();
    }

    /** The lines of the one block of this kind. */
    private static List<String> block(String readme, String kind) {
        Matcher matcher = Pattern.compile("```" + kind + "\n(.*?)```", Pattern.DOTALL).matcher(readme);
        boolean found = matcher.find();
        check.that(found, "there is no block of " + kind);
        if (!found) {
            return List.of();
        }
        List<String> lines = matcher.group(1).lines().toList();
        check.that(!matcher.find(), "there is more than one block of " + kind);
        return lines;
    }

    private static List<String> answers(List<String> example) {
        List<String> due = new ArrayList<>();
        for (String line : example) {
            if (line.contains("println")) {
                Matcher matcher = ANSWER.matcher(line);
                boolean named = matcher.matches();
                check.that(named, "no answer is named beside: " + line.trim());
                due.add(named ? matcher.group(1) : "");
            }
        }
        check.that(!due.isEmpty(), "the example prints nothing");
        return due;
    }

    // The commands run in a room of their own, so that they leave nothing in the project.
    private static List<String> run(Path room, List<String> example, List<String> commands)
            throws IOException, InterruptedException {
        Path source = room.resolve(SOURCE);
        Files.createDirectories(source.getParent());
        Files.copy(SOURCE, source);
        Files.write(room.resolve("Example.java"), example);
        ProcessBuilder builder = new ProcessBuilder("sh", "-e", "-c", String.join("\n", commands));
        builder.directory(room.toFile());
        builder.redirectError(ProcessBuilder.Redirect.INHERIT);
        Process process = builder.start();
        process.getOutputStream().close();
        String printed = new String(process.getInputStream().readAllBytes());
        check.is(0, process.waitFor(), "the exit code of the commands");
        return printed.lines().toList();
    }

    private static void remove(Path room) throws IOException {
        try (Stream<Path> paths = Files.walk(room)) {
            for (Path path : paths.sorted(Comparator.reverseOrder()).toList()) {
                Files.delete(path);
            }
        }
    }
}
