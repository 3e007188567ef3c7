import java.io.IOException;
import java.net.URL;
import java.net.URLClassLoader;
import java.nio.file.Files;
import java.nio.file.Path;
import java.util.ArrayList;
import java.util.List;
import java.util.regex.Matcher;
import java.util.regex.Pattern;
import java.util.spi.ToolProvider;
import java.util.stream.Stream;

/**
 * The calls that README.md shows answer as it says, and it says what it must. Its Java blocks are compiled as they
 * stand there, as the lines of one method, which hands out what each call answered.
 */
public final class ReadmeTest {
    /** A call that README.md shows. */
    record Shown(int line, String call, String name, String want) { }

    private static final Check CHECK = new Check("ReadmeTest");
    private static final Path README = Path.of("README.md");
    private static final Path TESTS = Path.of("src/test/java");
    private static final Pattern MADE = Pattern.compile("SharedFault court = new SharedFault\\(\\);");
    /** A call, perhaps with a name for its answer; behind it the answer, and after a colon why. */
    private static final Pattern CALL = Pattern.compile(
            "(?:(?:int|long) (\\w+) = )?(court\\.(\\w+)\\([^;]*\\)); +// (-?\\d+|[A-Z]+)(?:: .+)?");
    private static final String[] CASE = {
        "loss", "claimant", "wrong", "pair", "settle", "amount", "due", "pay", "fair", "over", "transfers", "transfer", "given"};
    private static final String[] ANSWERS = {"UNKNOWN", "OUTSIDE", "STATE", "FULL", "NONE", "LOST"};
    private static final String[] WORDS = {
        "`UNKNOWN` (-1)", "`OUTSIDE` (-2)", "`STATE` (-3)", "`FULL` (-4)", "`NONE` (-9)", "`LOST` (`Long.MIN_VALUE`)",
        "at most 512 calls", "\n.ci/run\n"};

    private final List<Shown> shown = new ArrayList<>();
    private final StringBuilder code = new StringBuilder();

    public static void main(String[] args) throws Exception {
        new ReadmeTest().run();
        CHECK.end();
    }

    private void run() throws Exception {
        words(Files.readString(README));
        read(Files.readAllLines(README));
        calls();
        Path folder = Files.createTempDirectory("readme");
        try {
            compare(folder);
        } finally {
            remove(folder);
        }
    }

    private static void words(String text) throws IOException {
        for (String words : WORDS) {
            CHECK.holds("README.md has the words " + words.trim(), text.contains(words));
        }
        try (Stream<Path> files = Files.list(TESTS)) {
            for (Path file : files.filter(f -> f.toString().endsWith("Test.java")).toList()) {
                String name = "`src/test/java/" + file.getFileName() + "`";
                CHECK.holds("README.md tells of " + name, text.contains(name));
            }
        }
    }

    private void read(List<String> lines) {
        boolean inBlock = false;
        for (int k = 0; k < lines.size(); k++) {
            String line = lines.get(k);
            if (line.startsWith("```")) {
                inBlock = line.equals("```java");
            } else if (inBlock && !line.isBlank()) {
                readLine(k + 1, line);
            }
        }
    }

    private void readLine(int number, String line) {
        Matcher call = CALL.matcher(line);
        if (!call.matches()) {
            String what = "README.md line " + number + " has a call with its answer, or makes the object: " + line;
            CHECK.holds(what, MADE.matcher(line).matches());
            code.append(line).append('\n');
            return;
        }
        String answer = "answers[" + shown.size() + "] = ";
        if (call.group(1) == null) {
            code.append(answer).append(line).append('\n');
        } else {
            code.append(line).append('\n').append(answer).append(call.group(1)).append(";\n");
        }
        shown.add(new Shown(number, call.group(2), call.group(3), call.group(4)));
    }

    /** The page shows an ordinary case to its end, and each refusal. */
    private void calls() {
        for (String name : CASE) {
            CHECK.holds("README.md shows " + name, shown.stream().anyMatch(s -> s.name.equals(name)));
        }
        for (String answer : ANSWERS) {
            CHECK.holds("README.md shows a call that answers " + answer, shown.stream().anyMatch(s -> s.want.equals(answer)));
        }
        CHECK.holds("README.md uses its object for at most 512 calls", shown.size() <= Script.MOST_CALLS);
    }

    private void compare(Path folder) throws Exception {
        Path file = folder.resolve("ReadmeExample.java");
        Files.writeString(file, "public final class ReadmeExample {\npublic static void run(long[] answers) {\n" + code + "}\n}\n");
        int exit = ToolProvider.findFirst("javac").orElseThrow().run(System.out, System.out, "--release", "17",
                "-cp", System.getProperty("java.class.path"), "-d", folder.toString(), file.toString());
        CHECK.is("javac, of the examples of README.md,", exit, 0);
        if (exit != 0) {
            return;
        }
        long[] answers = new long[shown.size()];
        try (URLClassLoader loader = new URLClassLoader(new URL[] {folder.toUri().toURL()})) {
            loader.loadClass("ReadmeExample").getMethod("run", long[].class).invoke(null, answers);
        }
        for (int k = 0; k < answers.length; k++) {
            Shown one = shown.get(k);
            CHECK.is("README.md line " + one.line + ", " + one.call, answers[k], Script.answer(one.want));
        }
    }

    private static void remove(Path folder) throws IOException {
        for (String name : new String[] {"ReadmeExample.java", "ReadmeExample.class"}) {
            Files.deleteIfExists(folder.resolve(name));
        }
        Files.delete(folder);
    }
}
