import java.io.File;
import java.io.IOException;
import java.lang.reflect.Method;
import java.lang.reflect.Modifier;
import java.nio.file.Files;
import java.nio.file.Path;
import java.util.ArrayList;
import java.util.List;
import java.util.Set;
import java.util.TreeSet;
import java.util.regex.Matcher;
import java.util.regex.Pattern;
import javax.tools.JavaCompiler;
import javax.tools.ToolProvider;

/** What README.md shows is so: every call of its examples has the answer behind it, every test that it names is there. */
public final class ReadmeTest {
    private static final Due due = new Due();
    private static final Pattern BLOCK = Pattern.compile("(?ms)^```java\n(.*?)^```$");
    private static final Pattern CALL = Pattern.compile("(x\\.(\\w+)\\(.*\\));\\s*// (-?\\d+)(?:: .*)?");

    private static final Set<String> shown = new TreeSet<>();
    private static final List<String> calls = new ArrayList<>();
    private static final List<Long> wanted = new ArrayList<>();

    public static void main(String[] args) throws IOException, ReflectiveOperationException {
        String readme = Files.readString(Path.of("README.md"));
        String program = programOf(readme);
        run(program);
        everyCallIsShown();
        namedTestsAre(readme);
        due.end("ReadmeTest");
    }

    /** A class of the README's blocks: one that begins with "static" stands in it as it is, the others are runs of calls. */
    private static String programOf(String readme) {
        StringBuilder members = new StringBuilder();
        StringBuilder runs = new StringBuilder();
        Matcher block = BLOCK.matcher(readme);
        while (block.find()) {
            if (block.group(1).startsWith("static ")) {
                members.append(block.group(1));
            } else {
                runs.append("{\n").append(runOf(block.group(1))).append("}\n");
            }
        }
        return "public final class ReadmeExamples {\n" + members
            + "public static void run(java.util.List<Long> answers) {\n" + runs + "}\n}\n";
    }

    private static String runOf(String block) {
        StringBuilder run = new StringBuilder();
        for (String line : block.split("\n")) {
            Matcher call = CALL.matcher(line);
            if (call.matches()) {
                calls.add(call.group(1));
                wanted.add(Long.valueOf(call.group(3)));
                shown.add(call.group(2));
                run.append("answers.add((long) ").append(call.group(1)).append(");\n");
            } else {
                due.isTrue("an answer stands behind '" + line + "'", !line.contains("x."));
                run.append(line).append('\n');
            }
        }
        return run.toString();
    }

    private static void run(String program) throws IOException, ReflectiveOperationException {
        // Beside this class, so that the examples are found like it.
        String folder = System.getProperty("java.class.path");
        Path file = Path.of(folder, "ReadmeExamples.java");
        Files.writeString(file, program);
        JavaCompiler javac = ToolProvider.getSystemJavaCompiler();
        int code = javac == null ? -1 : javac.run(null, null, null, "-cp", folder, "-d", folder, file.toString());
        due.is("the examples compile", code, 0);
        List<Long> answers = new ArrayList<>();
        if (code == 0) {
            Class.forName("ReadmeExamples").getMethod("run", List.class).invoke(null, answers);
        }
        compare(answers);
    }

    private static void compare(List<Long> answers) {
        due.is("answers", answers.size(), wanted.size());
        for (int i = 0; i < Math.min(answers.size(), wanted.size()); i++) {
            due.is(calls.get(i), answers.get(i), wanted.get(i));
        }
    }

    private static void everyCallIsShown() {
        for (Method m : BlorbRows.class.getDeclaredMethods()) {
            if (Modifier.isPublic(m.getModifiers())) {
                due.isTrue(m.getName() + " is shown", shown.contains(m.getName()));
            }
        }
    }

    private static void namedTestsAre(String readme) {
        Set<String> there = new TreeSet<>();
        for (String name : new File("src/test/java").list()) {
            if (name.endsWith("Test.java")) {
                there.add(name.replace(".java", ""));
            }
        }
        Set<String> named = new TreeSet<>();
        Matcher m = Pattern.compile("`(\\w+Test)`").matcher(readme);
        while (m.find()) {
            named.add(m.group(1));
        }
        due.isTrue("tests are " + there + ", named are " + named, there.equals(named));
    }
}
