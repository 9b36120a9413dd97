import java.io.IOException;
import java.nio.file.Files;
import java.nio.file.Path;
import java.util.ArrayList;
import java.util.List;
import java.util.regex.Matcher;
import java.util.regex.Pattern;

/** The commands and the program that README.md shows do what it says of them. */
final class ReadmeTests {
    private static final Path README = Path.of("README.md");
    private static final Path PROGRAM = Path.of("src/main/java/NightPorter.java");
    private static final Path PLACE = Path.of("build/readme");
    private static final Pattern SHOWN = Pattern.compile("println\\(.*// ([^:\n]+): ");
    private static final String FENCE = "```";

    private ReadmeTests() {
    }

    static void allCommandsAndCallsOfTheReadmeHold() throws IOException, InterruptedException {
        String readme = Files.readString(README);
        String example = block(readme, "java");
        Files.createDirectories(PLACE.resolve(PROGRAM).getParent());
        Files.write(PLACE.resolve(PROGRAM), Files.readAllBytes(PROGRAM));
        Files.writeString(PLACE.resolve("Program.java"), example);
        StringBuilder printed = new StringBuilder();
        for (String command : block(readme, "sh").split("\n")) {
            printed.append(run(command));
        }
        Check.same(shownBy(example), printed.toString());
    }

    static void allTestsAreRunAsTheReadmeSays() throws IOException {
        String readme = Files.readString(README);
        String tests = readme.substring(readme.indexOf("## Tests"));
        for (String command : block(tests, "sh").split("\n")) {
            Check.yes(Files.isExecutable(Path.of(command)));
        }
        for (String name : named(tests)) {
            Check.yes(Files.exists(Path.of("src/test/java", name + ".java")));
        }
    }

    /** The first block of this kind, without its fences. */
    private static String block(String text, String kind) {
        String opening = "\n" + FENCE + kind + "\n";
        int start = text.indexOf(opening) + opening.length();
        Check.yes(start >= opening.length());
        return text.substring(start, text.indexOf(FENCE, start));
    }

    private static String shownBy(String example) {
        StringBuilder shown = new StringBuilder();
        Matcher lines = SHOWN.matcher(example);
        int count = 0;
        for (; lines.find(); count++) {
            shown.append(lines.group(1)).append("\n");
        }
        Check.same(example.split("println").length - 1, count);
        return shown.toString();
    }

    private static List<String> named(String tests) {
        List<String> names = new ArrayList<>();
        Matcher classes = Pattern.compile("`([A-Z][A-Za-z]+)`").matcher(tests);
        while (classes.find()) {
            names.add(classes.group(1));
        }
        Check.no(names.isEmpty());
        return names;
    }

    private static String run(String command) throws IOException, InterruptedException {
        Process process = new ProcessBuilder(command.split(" ")).directory(PLACE.toFile())
            .redirectError(ProcessBuilder.Redirect.INHERIT).start();
        String printed = new String(process.getInputStream().readAllBytes());
        if (process.waitFor() != 0) {
            throw new AssertionError("README.md's command ended wrong: " + command);
        }
        return printed;
    }
}
