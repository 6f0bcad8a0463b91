import java.io.IOException;
import java.net.URL;
import java.net.URLClassLoader;
import java.nio.file.Files;
import java.nio.file.Path;
import java.util.regex.Matcher;
import java.util.regex.Pattern;

/**
 * The ordinary run that README.md shows answers as it says there; it is run from the project's
 * root. The run is compiled from the page itself, so that the two can't come apart.
 */
public final class ReadmeTest {
    private static final Check CHECK = new Check();
    private static final Pattern RUN = Pattern.compile("(?s)```java\n(.*?)```");
    private static final Pattern TOLD =
        Pattern.compile("(int (\\w+) = )?(puzzle\\.\\w+\\(.*\\)); +// (throws )?([\\w.-]+):.*");

    /** The run compiled from the page calls these two, so they are public. */
    public interface Call {
        Object answer();
    }

    public static void answers(String call, String due, Call asked) {
        String got;
        try {
            got = String.valueOf(asked.answer());
        } catch (RuntimeException e) {
            got = e.getClass().getSimpleName();
        }
        CHECK.same(call + " answers " + due + ", got " + got, got.equals(due) ? 1 : 0, 1);
    }

    public static void main(String[] args) throws Exception {
        String page = Files.readString(Path.of("README.md"));
        Matcher run = RUN.matcher(page);
        if (!run.find()) {
            CHECK.fail("README.md shows no run");
        } else {
            runFromPage(run.group(1));
            CHECK.same("it tells how to run the tests", page.contains("    .ci/run\n") ? 1 : 0, 1);
            everyTestIsTold(page);
        }
        CHECK.end();
    }

    private static void runFromPage(String run) throws Exception {
        Path folder = Files.createTempDirectory("readme");
        Path source = folder.resolve("ReadmeRun.java");
        try {
            Files.writeString(source, program(run));
            int failed = new ProcessBuilder("javac", "--release", "17", "-cp",
                System.getProperty("java.class.path"), "-d", folder.toString(), source.toString())
                .inheritIO().start().waitFor();
            CHECK.same("the run compiles", failed, 0);
            if (failed == 0) {
                start(folder);
            }
        } finally {
            Files.deleteIfExists(folder.resolve("ReadmeRun.class"));
            Files.deleteIfExists(source);
            Files.delete(folder);
        }
    }

    private static void start(Path folder) throws Exception {
        URL[] place = {folder.toUri().toURL()};
        try (URLClassLoader loader =
                 new URLClassLoader(place, ReadmeTest.class.getClassLoader())) {
            ((Runnable) loader.loadClass("ReadmeRun").getDeclaredConstructor().newInstance()).run();
        }
    }

    private static String program(String run) {
        StringBuilder program = new StringBuilder();
        program.append("public final class ReadmeRun implements Runnable {\n");
        program.append("    public void run() {\n");
        run.lines().forEach(line -> program.append(checked(line)).append('\n'));
        return program.append("    }\n}\n").toString();
    }

    /** A line that tells its answer, made into one that asks for it. */
    private static String checked(String line) {
        Matcher told = TOLD.matcher(line);
        if (!told.matches()) {
            CHECK.same("tells its answer: " + line, line.startsWith("puzzle.") ? 1 : 0, 0);
            return line;
        }
        boolean isKept = told.group(1) != null;
        String kept = isKept ? told.group(1) + told.group(3) + "; " : "";
        String asked = isKept ? told.group(2) : told.group(3);
        return kept + "ReadmeTest.answers(\"" + told.group(3) + "\", \"" + told.group(5)
            + "\", () -> " + asked + ");";
    }

    private static void everyTestIsTold(String page) throws IOException {
        try (var files = Files.newDirectoryStream(Path.of("src/test/java"), "*Test.java")) {
            for (Path file : files) {
                String name = file.getFileName().toString().replace(".java", "");
                CHECK.same("tells of " + name, page.contains("`" + name + "`") ? 1 : 0, 1);
            }
        }
    }
}
