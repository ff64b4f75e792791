import java.io.IOException;
import java.net.URL;
import java.net.URLClassLoader;
import java.nio.file.Files;
import java.nio.file.Path;
import java.util.ArrayList;
import java.util.List;
import java.util.regex.Matcher;
import java.util.regex.Pattern;
import java.util.stream.Stream;
import javax.tools.ToolProvider;

/** The run of calls that README.md shows: it compiles, and each call has the answer that is told there. */
public final class ReadmeTest {
    private static final Pattern RUN = Pattern.compile("(?ms)^```java\n(.*?)^```$");
    private static final Pattern CONSTRUCTOR =
            Pattern.compile("ShareGrid grid = new ShareGrid\\([^)]*\\); +// .+");
    /** The variable that keeps the answer, if any; the call; the answer, a number or a constant's name. */
    private static final Pattern CALL =
            Pattern.compile("(?:int (\\w+) = )?(grid\\.\\w+\\([^)]*\\)); +// (-?\\d+|[A-Z]+)(?:: .+)?");
    private static final int LEAST_CALLS = 10;

    private final List<String> calls = new ArrayList<>();
    private final List<Long> answersTold = new ArrayList<>();
    private final StringBuilder statements = new StringBuilder();

    private ReadmeTest() {
    }

    public static void main(String[] args) throws IOException, ReflectiveOperationException {
        String readme = Files.readString(Path.of("README.md"));
        Matcher run = RUN.matcher(readme);
        int runs = 0;
        while (run.find()) {
            new ReadmeTest().compareAnswers(run.group(1));
            runs++;
        }
        Due.due("runs of calls that README.md shows", runs, 1);
        findTests(readme);
        Due.finish();
    }

    private void compareAnswers(String run) throws IOException, ReflectiveOperationException {
        for (String line : run.split("\n")) {
            if (!line.isBlank()) {
                takeLine(line);
            }
        }
        Due.due("the run has calls enough", calls.size() >= LEAST_CALLS);
        long[] answers = answers();
        for (int i = 0; i < calls.size(); i++) {
            Due.due("README.md: " + calls.get(i), answers[i], answersTold.get(i));
        }
    }

    private void takeLine(String line) throws ReflectiveOperationException {
        Matcher call = CALL.matcher(line);
        if (call.matches()) {
            takeCall(call.group(1), call.group(2), call.group(3));
        } else {
            Due.due("README.md: \"" + line + "\" has an answer", CONSTRUCTOR.matcher(line).matches());
            statements.append(line).append("\n");
        }
    }

    private void takeCall(String variable, String call, String answer) throws ReflectiveOperationException {
        String kept = "answers[" + calls.size() + "] = ";
        if (variable == null) {
            statements.append(kept).append(call).append(";\n");
        } else {
            statements.append("int ").append(variable).append(" = ").append(call).append(";\n");
            statements.append(kept).append(variable).append(";\n");
        }
        calls.add(call);
        answersTold.add(valueOf(answer));
    }

    private static long valueOf(String answer) throws ReflectiveOperationException {
        return Character.isLetter(answer.charAt(0))
                ? ShareGrid.class.getField(answer).getLong(null)
                : Long.parseLong(answer);
    }

    /** Compiles the statements and runs them. */
    private long[] answers() throws IOException, ReflectiveOperationException {
        Path directory = Files.createTempDirectory("readme");
        Path source = directory.resolve("ReadmeRun.java");
        try {
            Files.writeString(source, "public final class ReadmeRun {\n"
                    + "public static long[] answers() {\n"
                    + "long[] answers = new long[" + calls.size() + "];\n"
                    + statements
                    + "return answers;\n}\n}\n");
            int failed = ToolProvider.getSystemJavaCompiler().run(null, null, null,
                    "-cp", System.getProperty("java.class.path"), "-d", directory.toString(),
                    source.toString());
            Due.due("README.md's run compiles", failed, 0);
            try (URLClassLoader loader = new URLClassLoader(new URL[] {directory.toUri().toURL()})) {
                return (long[]) loader.loadClass("ReadmeRun").getMethod("answers").invoke(null);
            }
        } finally {
            Files.deleteIfExists(directory.resolve("ReadmeRun.class"));
            Files.deleteIfExists(source);
            Files.delete(directory);
        }
    }

    /** README.md says how the tests are run, and what each is for. */
    private static void findTests(String readme) throws IOException {
        Due.due("README.md tells how the tests are run", readme.contains("\n    .ci/run\n"));
        try (Stream<Path> files = Files.list(Path.of("src", "test", "java"))) {
            for (Path file : files.toList()) {
                String name = file.getFileName().toString().replace(".java", "");
                boolean isTest = name.endsWith("Test");
                Due.due("README.md names " + name, !isTest || readme.contains("`" + name + "`"));
            }
        }
    }
}
