import java.io.IOException;
import java.nio.file.Files;
import java.nio.file.Path;
import java.util.ArrayList;
import java.util.List;
import java.util.Set;
import java.util.TreeSet;
import java.util.regex.Matcher;
import java.util.regex.Pattern;
import java.util.stream.Stream;

/** What README.md shows is so when it is tried. The tests run in the project's root, where .ci/run goes first. */
public final class ReadmeTest {
    private static final Check CHECK = new Check();
    private static final Path TESTS = Path.of("src/test/java");
    private static final Pattern BLOCK = Pattern.compile("(?m)^```(\\w+)\\n(.*?)^```$", Pattern.DOTALL);

    private record Block(String language, String text) { }

    public static void main(String[] args) throws IOException, InterruptedException {
        String page = Files.readString(Path.of("README.md"));
        List<Block> blocks = new ArrayList<>();
        for (Matcher m = BLOCK.matcher(page); m.find();) {
            blocks.add(new Block(m.group(1), m.group(2)));
        }
        constants(page);
        calls(page);
        tests(page);
        cases(blocks);
        commands(blocks);
        CHECK.holds(".ci/run can be run", Files.isExecutable(Path.of(".ci/run")));
        CHECK.end();
    }

    private static void constants(String page) throws IOException {
        Set<String> shown = found("(?m)^\\| `([A-Z]+)` \\| (-\\d+) \\|", page, "=");
        Set<String> due = found("\\b([A-Z]+) = (-\\d+)[,;]", document(), "=");
        CHECK.holds("the constants are " + due + ", not " + shown, due.equals(shown) && due.size() == 12);
    }

    private static void calls(String page) throws IOException {
        String table = page.substring(page.indexOf("### The calls"), page.indexOf("### What a call answers"));
        Set<String> shown = found("`(\\w+)(\\([^)]*\\))`", table, "");
        Set<String> due = new TreeSet<>();
        for (String call : found("public int (\\w+)(\\([^)]*\\));", document(), "")) {
            due.add(call.replace("int ", ""));
        }
        CHECK.holds("the calls are " + due + ", not " + shown, due.equals(shown) && due.size() == 36);
    }

    private static void tests(String page) throws IOException {
        Set<String> shown = found("(?m)^\\| (\\w+)(Test) \\|", page, "");
        Set<String> due = new TreeSet<>();
        for (Path file : testFiles()) {
            if (file.getFileName().toString().endsWith("Test.java")) {
                due.add(file.getFileName().toString().replace(".java", ""));
            }
        }
        CHECK.holds("the tests are " + due + ", not " + shown, due.equals(shown));
    }

    /** Each case that is shown stands so in one of the tests, where it is run. */
    private static void cases(List<Block> blocks) throws IOException {
        StringBuilder all = new StringBuilder();
        for (Path file : testFiles()) {
            all.append(Files.readString(file));
        }
        int many = 0;
        for (Block block : blocks) {
            if (block.language.equals("java") && block.text.contains("EDGES.")) {
                for (String one : block.text.split("(?<=;\n)")) {
                    many++;
                    CHECK.holds("a test has this case: " + one, all.indexOf(one) >= 0);
                }
            }
        }
        CHECK.holds("a case is shown", many > 0);
    }

    /** Commands are run in a place of their own, beside the shared documents; a text behind them is what they print. */
    private static void commands(List<Block> blocks) throws IOException, InterruptedException {
        Path place = Files.createTempDirectory("readme");
        Path root = Files.createDirectory(place.resolve("main"));
        Files.createSymbolicLink(root.resolve("src"), Path.of("src").toRealPath());
        Files.createSymbolicLink(place.resolve("shared"), Path.of("../shared").toRealPath());
        int many = 0;
        for (int i = 0; i < blocks.size(); i++) {
            Block block = blocks.get(i);
            Matcher example = Pattern.compile("public final class (\\w+) ").matcher(block.text);
            if (block.language.equals("java") && example.find()) {
                Files.writeString(root.resolve(example.group(1) + ".java"), block.text);
            }
            if (block.language.equals("sh")) {
                boolean isTextNext = i + 1 < blocks.size() && blocks.get(i + 1).language.equals("text");
                run(root, block.text, isTextNext ? blocks.get(i + 1).text : null);
                many++;
            }
        }
        CHECK.holds("commands are shown", many > 0);
        removeAll(place);
    }

    private static void run(Path root, String commands, String due) throws IOException, InterruptedException {
        Process process = new ProcessBuilder("sh", "-e", "-c", commands).directory(root.toFile()).redirectErrorStream(true).start();
        String printed = new String(process.getInputStream().readAllBytes());
        int code = process.waitFor();
        CHECK.holds("exit code 0, not " + code + ", of\n" + commands + printed, code == 0);
        if (due != null) {
            CHECK.holds("what is printed by\n" + commands + "is\n" + printed, due.equals(printed));
        }
    }

    private static void removeAll(Path place) throws IOException {
        List<Path> all;
        try (Stream<Path> walk = Files.walk(place)) {
            all = walk.toList();
        }
        for (int i = all.size() - 1; i >= 0; i--) {
            Files.delete(all.get(i));
        }
    }

    private static List<Path> testFiles() throws IOException {
        try (Stream<Path> all = Files.list(TESTS)) {
            return all.toList();
        }
    }

    private static String document() throws IOException {
        return Files.readString(Path.of("../shared/DOC.md"));
    }

    private static Set<String> found(String pattern, String text, String between) {
        Set<String> all = new TreeSet<>();
        for (Matcher m = Pattern.compile(pattern).matcher(text); m.find();) {
            all.add(m.group(1) + between + m.group(2));
        }
        return all;
    }
}
