import java.io.IOException;
import java.lang.reflect.Method;
import java.lang.reflect.Modifier;
import java.nio.file.Files;
import java.nio.file.Path;
import java.util.ArrayList;
import java.util.List;
import java.util.stream.Stream;

/** README.md: each call and each test stands in it, and what it shows and tells to do holds as it stands. */
public final class ReadmeTest {
    private static final Checks C = new Checks();
    private static final String ALL_TESTS = ".ci/run";

    /** What stands between two lines of ```, and what is said behind the first ``` of it. */
    private record Block(String language, String text) {
    }

    public static void main(String[] args) throws IOException, InterruptedException {
        String readme = Files.readString(Path.of("README.md"));
        List<Block> blocks = blocksOf(readme);
        calls(readme);
        tests(readme);
        example(blocks);
        commands(blocks);
        C.end("ReadmeTest");
    }

    private static List<Block> blocksOf(String readme) {
        List<Block> blocks = new ArrayList<>();
        String[] parts = readme.split("(?m)^```", -1);
        C.due("each ``` has its end", parts.length % 2, 1);
        for (int i = 1; i < parts.length; i += 2) {
            int line = parts[i].indexOf('\n') + 1;
            blocks.add(new Block(parts[i].substring(0, line).trim(), parts[i].substring(line)));
        }
        return blocks;
    }

    private static void calls(String readme) {
        C.of("README.md says how to use the class (each of its calls)");
        C.due("RuleSentences() has its line", readme.contains("| `RuleSentences()` |"), true);
        for (Method m : RuleSentences.class.getDeclaredMethods()) {
            if (Modifier.isPublic(m.getModifiers())) {
                String parameters = "\\w+, ".repeat(m.getParameterCount()).replaceAll(", $", "");
                boolean there = readme.lines().anyMatch(line -> line.matches("\\| `" + m.getName() + "\\(" + parameters + "\\)` \\| .+ \\|"));
                C.due(m.getName() + "() has its line, with as many parameters", there, true);
            }
        }
    }

    private static void tests(String readme) throws IOException {
        C.of("README.md says how to run its tests: what each is of");
        try (Stream<Path> files = Files.list(Path.of("src/test/java"))) {
            files.map(file -> file.getFileName().toString()).filter(name -> name.endsWith("Test.java"))
                .forEach(name -> C.due(name + " is named", readme.contains("`" + name.replace(".java", "") + "`"), true));
        }
    }

    private static void example(List<Block> blocks) throws IOException {
        C.of("README.md: the example is the one that can be run");
        int shown = 0;
        for (Block block : blocks) {
            if (block.language.equals("java")) {
                C.due("the example", block.text, Files.readString(Path.of("src/example/java/Example.java")));
                shown++;
            }
        }
        C.due("examples shown", shown, 1);
    }

    /** Each command ends well, and prints the text that follows it, if one does. */
    private static void commands(List<Block> blocks) throws IOException, InterruptedException {
        C.of("README.md: in words and commands that hold as they stand");
        int done = 0;
        for (int i = 0; i < blocks.size(); i++) {
            String command = blocks.get(i).text.trim();
            if (!blocks.get(i).language.equals("sh")) {
                continue;
            }
            done++;
            if (command.equals(ALL_TESTS)) {
                // It is what runs this test, so it can't be run from here.
                C.due(command + " can be run", Files.isExecutable(Path.of(command)), true);
                continue;
            }
            Process process = new ProcessBuilder("sh", "-c", command).redirectError(ProcessBuilder.Redirect.INHERIT).start();
            String printed = new String(process.getInputStream().readAllBytes());
            C.due("exit code of <" + command + ">, which printed " + printed, process.waitFor(), 0);
            if (i + 1 < blocks.size() && blocks.get(i + 1).language.equals("text")) {
                C.due("what <" + command + "> prints", printed, blocks.get(i + 1).text);
            }
        }
        C.due("commands found", done, 4);
    }
}
