import java.io.IOException;
import java.lang.reflect.Method;
import java.nio.file.DirectoryStream;
import java.nio.file.Files;
import java.nio.file.Path;
import java.util.ArrayList;
import java.util.List;
import java.util.Set;
import java.util.TreeSet;
import java.util.regex.Matcher;
import java.util.regex.Pattern;

/** README.md: its example compiles as it stands and prints what stands there, its commands run, its names are so. */
final class ReadmeTest {
    private static final String ALL_TESTS = ".ci/run\n";

    public static void main(String[] args) throws IOException, InterruptedException {
        String page = Files.readString(Path.of("README.md"));
        example(page);
        commands(page);
        testNames(page);
        methodNames(page);
        Check.end("ReadmeTest");
    }

    /** What stands between the marks of a kind of block, in the page's sequence. */
    private static List<String> blocks(String page, String kind) {
        List<String> found = new ArrayList<>();
        Matcher block = Pattern.compile("^```" + kind + "\n(.*?)^```$", Pattern.MULTILINE | Pattern.DOTALL).matcher(page);
        while (block.find()) {
            found.add(block.group(1));
        }
        return found;
    }

    private static void example(String page) throws IOException {
        Check.sentence("README.md: a short example, a whole file as it stands");
        Check.due("how many examples", blocks(page, "java").size(), 1);
        Check.due("how many texts that are printed", blocks(page, "text").size(), 1);
        Path folder = Files.createDirectories(Path.of("build", "example"));
        Files.writeString(folder.resolve("Example.java"), blocks(page, "java").get(0));
    }

    /** All but .ci/run, which runs this test itself. */
    private static void commands(String page) throws IOException, InterruptedException {
        Check.sentence("README.md: its commands run");
        List<String> commands = blocks(page, "sh");
        Check.due("the blocks of commands", commands.size(), 4);
        Check.due("the command for all tests", commands.remove(1), ALL_TESTS);
        Check.due(commands.get(0), run(commands.get(0)), blocks(page, "text").get(0));
        Check.due(commands.get(1), run(commands.get(1)).startsWith("DraftTest: "), true);
        Check.due(commands.get(2), run(commands.get(2)), "all answers are as due\n");
    }

    private static String run(String commands) throws IOException, InterruptedException {
        Process made = new ProcessBuilder("sh", "-e", "-c", commands)
                .redirectError(ProcessBuilder.Redirect.INHERIT).start();
        String told = new String(made.getInputStream().readAllBytes());
        Check.due("the exit code of " + commands, made.waitFor(), 0);
        return told;
    }

    private static void testNames(String page) throws IOException {
        Check.sentence("README.md: what they test");
        Set<String> there = new TreeSet<>();
        try (DirectoryStream<Path> files = Files.newDirectoryStream(Path.of("tests"), "*Test.java")) {
            files.forEach(file -> there.add(file.getFileName().toString().replace(".java", "")));
        }
        Check.due("the tests that it names", quoted(page, "([A-Z]\\w*Test)"), there);
    }

    private static void methodNames(String page) {
        Check.sentence("README.md: how the class is used");
        Set<String> face = new TreeSet<>();
        for (Method method : Addressloom.class.getMethods()) {
            if (method.getDeclaringClass() == Addressloom.class) {
                face.add(method.getName());
            }
        }
        Set<String> named = quoted(page, "([a-z]\\w*)\\(\\d?\\)");
        named.removeAll(face);
        Check.due("methods that it names and the class has not", named, Set.of());
    }

    private static Set<String> quoted(String page, String pattern) {
        Set<String> found = new TreeSet<>();
        Matcher name = Pattern.compile("`" + pattern + "`").matcher(page);
        while (name.find()) {
            found.add(name.group(1));
        }
        return found;
    }
}
