import java.io.IOException;
import java.nio.charset.StandardCharsets;
import java.nio.file.Files;
import java.nio.file.Path;
import java.util.ArrayList;
import java.util.Comparator;
import java.util.List;
import java.util.stream.Stream;

/**
 * The program in README.md, saved, compiled and run by the commands in README.md, prints the answers that
 * README.md tells behind its calls. It is run from the project's directory.
 */
public final class ReadmeTest {
    private static final Check CHECK = new Check();
    private static final Path README = Path.of("README.md");
    private static final Path MAIN = Path.of("src/main/java/PackedDecimals.java");
    private static final Path TESTS = Path.of("src/test/java");
    private static final String PRINT = "System.out.println(";
    private static final String REMARK = "// ";
    private static final String FENCE = "```";

    /** The lines of the first block of a language; none if there is no such block. */
    private static List<String> block(List<String> readme, String language) {
        List<String> lines = new ArrayList<>();
        int start = readme.indexOf(FENCE + language);
        for (int i = start + 1; start >= 0 && i < readme.size() && !readme.get(i).equals(FENCE); i++) {
            lines.add(readme.get(i));
        }
        return lines;
    }

    /** The lines of a program that print something. */
    private static List<String> printing(List<String> program) {
        List<String> lines = new ArrayList<>();
        for (String line : program) {
            if (line.contains(PRINT)) {
                lines.add(line.trim());
            }
        }
        return lines;
    }

    /** What is told behind a line, up to a colon; nothing, which no line prints, if nothing is told. */
    private static String told(String line) {
        int start = line.lastIndexOf(REMARK);
        String remark = start < 0 ? "" : line.substring(start + REMARK.length());
        int colon = remark.indexOf(':');
        return (colon < 0 ? remark : remark.substring(0, colon)).trim();
    }

    /** A place with the class where README.md has it, and the program beside README.md. */
    private static Path prepare(List<String> program) throws IOException {
        Path place = Files.createTempDirectory("readme");
        Files.createDirectories(place.resolve(MAIN).getParent());
        Files.copy(MAIN, place.resolve(MAIN));
        Files.write(place.resolve("Example.java"), program);
        return place;
    }

    private static List<String> printed(Path place, List<String> commands) throws IOException, InterruptedException {
        Process process = new ProcessBuilder("sh", "-e", "-c", String.join("\n", commands))
                .directory(place.toFile()).redirectError(ProcessBuilder.Redirect.INHERIT).start();
        process.getOutputStream().close();
        String text = new String(process.getInputStream().readAllBytes(), StandardCharsets.UTF_8);
        CHECK.due("the exit code of README.md's commands", process.waitFor(), 0);
        return text.lines().toList();
    }

    private static void remove(Path place) throws IOException {
        List<Path> all;
        try (Stream<Path> found = Files.walk(place)) {
            all = found.sorted(Comparator.reverseOrder()).toList();
        }
        for (Path path : all) {
            Files.delete(path);
        }
    }

    private static void example(List<String> readme) throws IOException, InterruptedException {
        CHECK.section("README.md's example");
        List<String> program = block(readme, "java");
        List<String> commands = block(readme, "sh");
        CHECK.due("there is a program", program.isEmpty(), false);
        CHECK.due("there are commands", commands.isEmpty(), false);
        List<String> calls = printing(program);
        CHECK.due("there are calls", calls.isEmpty(), false);
        Path place = prepare(program);
        List<String> got = printed(place, commands);
        remove(place);
        CHECK.due("how many lines are printed", got.size(), calls.size());
        for (int i = 0; i < Math.min(got.size(), calls.size()); i++) {
            CHECK.due(calls.get(i), got.get(i), told(calls.get(i)));
        }
    }

    /** Every method of the face is shown, and every test is told of. */
    private static void wholeness(List<String> readme) throws IOException {
        CHECK.section("README.md's wholeness");
        String program = String.join("\n", block(readme, "java"));
        String[] methods = {"number", "octet", "at", "size", "apply", "compare", "valid", "convert", "digit", "round",
            "half"};
        for (String method : methods) {
            CHECK.due(method + " is shown", program.contains("x." + method + "("), true);
        }
        String text = String.join("\n", readme);
        try (Stream<Path> files = Files.list(TESTS)) {
            for (Path file : files.toList()) {
                String name = file.getFileName().toString().replace(".java", "");
                CHECK.due(name + " is told of", !name.endsWith("Test") || text.contains("`" + name + "`"), true);
            }
        }
        CHECK.due(".ci/run is told of", text.contains(".ci/run"), true);
        CHECK.due("the 512 calls are told of", text.contains("512 calls"), true);
    }

    public static void main(String[] args) throws IOException, InterruptedException {
        List<String> readme = Files.readAllLines(README);
        example(readme);
        wholeness(readme);
        CHECK.end("ReadmeTest");
    }
}
