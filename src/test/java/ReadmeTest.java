import java.io.IOException;
import java.lang.reflect.Method;
import java.lang.reflect.Modifier;
import java.nio.charset.StandardCharsets;
import java.nio.file.Files;
import java.nio.file.Path;
import java.util.ArrayList;
import java.util.List;
import java.util.regex.Matcher;
import java.util.regex.Pattern;

/** The examples of README.md compile and print what stands below them, and no call of the face is left out there. */
public final class ReadmeTest {
    private static final Pattern EXAMPLE = Pattern.compile("```java\n(.*?)```.*?```text\n(.*?)```", Pattern.DOTALL);

    private ReadmeTest() {
    }

    /** What an example prints, compiled and run by the java command as a file of its own beside the class. */
    private static String printedBy(String source) throws IOException, InterruptedException {
        Path file = Files.createTempFile("Example", ".java");
        try {
            Files.writeString(file, source);
            String java = Path.of(System.getProperty("java.home"), "bin", "java").toString();
            Process process = new ProcessBuilder(java, "-cp", System.getProperty("java.class.path"), file.toString())
                    .redirectErrorStream(true).start();
            String printed = new String(process.getInputStream().readAllBytes(), StandardCharsets.UTF_8);
            int exit = process.waitFor();
            return exit == 0 ? printed.replace(System.lineSeparator(), "\n") : "exit code " + exit + "\n" + printed;
        } finally {
            Files.delete(file);
        }
    }

    private static void checkExamples(Checks checks, String readme) throws IOException, InterruptedException {
        Matcher matcher = EXAMPLE.matcher(readme);
        List<String> sources = new ArrayList<>();
        while (matcher.find()) {
            sources.add(matcher.group(1));
            String printed = printedBy(matcher.group(1));
            checks.isTrue("the example " + sources.size() + " prints what stands below it, but:\n" + printed,
                    printed.equals(matcher.group(2)));
        }
        checks.is("examples with an answer below each", readme.split("```java\n", -1).length - 1, sources.size());
        checks.is("examples", 2, sources.size());
    }

    private static void checkCalls(Checks checks, String readme) {
        for (Method method : PressHall.class.getDeclaredMethods()) {
            if (!Modifier.isPublic(method.getModifiers())) {
                continue;
            }
            Matcher row = Pattern.compile("\\| `" + method.getName() + "\\((.*?)\\)` \\|").matcher(readme);
            boolean isTold = row.find();
            checks.isTrue("the table of the calls tells of " + method.getName(), isTold);
            int arguments = !isTold || row.group(1).isEmpty() ? 0 : row.group(1).split(", ").length;
            checks.is("arguments of " + method.getName(), method.getParameterCount(), arguments);
        }
    }

    public static void main(String[] args) throws IOException, InterruptedException {
        Checks checks = new Checks();
        String readme = Files.readString(Path.of("README.md")).replace("\r\n", "\n");
        checkExamples(checks, readme);
        checkCalls(checks, readme);
        checks.end();
    }
}
