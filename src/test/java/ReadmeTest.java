import java.io.IOException;
import java.nio.file.Files;
import java.nio.file.Path;
import java.util.ArrayList;
import java.util.List;
import java.util.regex.Matcher;
import java.util.regex.Pattern;

/** The example of README.md: it must compile, and each line that prints must print what stands behind its "//". */
public final class ReadmeTest {
    private static final Pattern PRINTING = Pattern.compile(".*System\\.out\\.println\\(.*\\);\\s*// ([^:]*)(:.*)?");

    private ReadmeTest() {
    }

    public static void main(String[] args) throws IOException, InterruptedException {
        Check check = new Check("ReadmeTest");
        List<String> example = example(Files.readAllLines(Path.of("README.md")));
        List<String> due = due(example);
        check.yes("the example prints something", !due.isEmpty());
        List<String> printed = run(check, example);
        check.yes("the example printed " + printed + ", due is " + due, printed.equals(due));
        check.end();
    }

    /** What stands in the first block of Java. */
    private static List<String> example(List<String> readme) {
        int begin = readme.indexOf("```java") + 1;
        int length = readme.subList(begin, readme.size()).indexOf("```");
        return readme.subList(begin, begin + length);
    }

    private static List<String> due(List<String> example) {
        List<String> due = new ArrayList<>();
        for (String line : example) {
            Matcher printing = PRINTING.matcher(line);
            if (printing.matches()) {
                due.add(printing.group(1));
            }
        }
        return due;
    }

    private static List<String> run(Check check, List<String> example) throws IOException, InterruptedException {
        List<String> lines = new ArrayList<>(example);
        lines.add(0, "public final class Example { public static void main(String[] args) {");
        lines.add("} }");
        Path file = Files.createTempFile("Example", ".java");
        try {
            Files.write(file, lines);
            String java = Path.of(System.getProperty("java.home"), "bin", "java").toString();
            Process process = new ProcessBuilder(java, "-cp", System.getProperty("java.class.path"), file.toString())
                .redirectError(ProcessBuilder.Redirect.INHERIT).start();
            List<String> printed = new String(process.getInputStream().readAllBytes()).lines().toList();
            check.same("exit code of the example", process.waitFor(), 0);
            return printed;
        } finally {
            Files.delete(file);
        }
    }
}
