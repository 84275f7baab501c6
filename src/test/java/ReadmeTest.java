import java.io.File;
import java.io.IOException;
import java.lang.reflect.Method;
import java.lang.reflect.Modifier;
import java.nio.file.Files;
import java.nio.file.Path;
import java.util.ArrayList;
import java.util.List;
import java.util.Set;
import java.util.TreeSet;
import java.util.regex.Matcher;
import java.util.regex.Pattern;
import javax.tools.ToolProvider;

/** What README.md says of using the class and of running its tests is as the project does it. */
public final class ReadmeTest {
    private static final Pattern ANSWER = Pattern.compile("(x\\.\\w+\\(.*\\));\\s*// (-?\\d+).*");
    private static final Due due = new Due();

    public static void main(String[] args) throws IOException, InterruptedException {
        String text = Files.readString(Path.of("README.md"));
        theExampleAnswersAsItSays(text);
        eachCallOfTheFaceIsTold(text);
        theTestsAreThoseOfTheProject(text);
        theClassesInsideAreThoseOfTheClass(text);
        theScriptRunsWhatItSays(text);
        due.close("ReadmeTest");
    }

    /** A line of the example that ends with a number in its comment is looked at; the others are run as they are. */
    private static void theExampleAnswersAsItSays(String text) throws IOException, InterruptedException {
        int from = text.indexOf("```java\n") + "```java\n".length();
        String example = text.substring(from, text.indexOf("```", from));
        StringBuilder body = new StringBuilder("final class Example {\n public static void main(String[] none) {\n");
        int looked = 0;
        for (String line : example.split("\n")) {
            Matcher m = ANSWER.matcher(line);
            if (m.matches()) {
                looked++;
                body.append("if (").append(m.group(1)).append(" != ").append(m.group(2)).append(") System.exit(")
                    .append(looked).append(");\n");
            } else {
                body.append(line).append('\n');
            }
        }
        due.is("README.md: answers in the example", looked >= 5, true);
        due.is("README.md: the example (another than 0: the number of the answer that is wrong)",
            runs(body.append("}\n}\n").toString()), 0);
    }

    private static int runs(String program) throws IOException, InterruptedException {
        Path folder = Files.createTempDirectory("readme");
        try {
            Path file = Files.writeString(folder.resolve("Example.java"), program);
            String classes = System.getProperty("java.class.path");
            int compiled = ToolProvider.getSystemJavaCompiler().run(null, null, null,
                "-cp", classes, "-d", folder.toString(), file.toString());
            if (compiled != 0) {
                return -1;
            }
            String java = Path.of(System.getProperty("java.home"), "bin", "java").toString();
            return new ProcessBuilder(java, "-cp", classes + File.pathSeparator + folder, "Example").inheritIO().start()
                .waitFor();
        } finally {
            for (File f : folder.toFile().listFiles()) {
                Files.delete(f.toPath());
            }
            Files.delete(folder);
        }
    }

    private static void eachCallOfTheFaceIsTold(String text) {
        for (Method m : ParallelUndo.class.getDeclaredMethods()) {
            if (Modifier.isPublic(m.getModifiers())) {
                due.is("README.md tells of " + m.getName() + "()", text.contains("`" + m.getName() + "("), true);
            }
        }
    }

    private static void theTestsAreThoseOfTheProject(String text) {
        List<String> there = new ArrayList<>();
        for (String name : new File("src/test/java").list()) {
            if (name.endsWith("Test.java")) {
                there.add(name.replace(".java", ""));
            }
        }
        Set<String> told = new TreeSet<>();
        Matcher m = Pattern.compile("- `(\\w+Test)`:").matcher(text);
        while (m.find()) {
            told.add(m.group(1));
        }
        due.is("README.md: the tests " + told + " are those of the project " + there,
            told.equals(new TreeSet<>(there)), true);
    }

    private static void theClassesInsideAreThoseOfTheClass(String text) {
        for (Class<?> inside : ParallelUndo.class.getDeclaredClasses()) {
            due.is("README.md tells of " + inside.getSimpleName(), text.contains("`" + inside.getSimpleName() + "`:"), true);
        }
    }

    private static void theScriptRunsWhatItSays(String text) throws IOException {
        Path script = Path.of(".ci/run");
        due.is("README.md: the tests are run by .ci/run", text.contains("```sh\n.ci/run\n```"), true);
        due.is(".ci/run can be run", Files.isExecutable(script), true);
        String written = Files.readString(script);
        due.is(".ci/run: the tests of the project", written.contains("for file in src/test/java/*Test.java; do"), true);
        due.is(".ci/run: the shared tests", written.contains("for file in ../shared/tests/*.java; do"), true);
    }
}
