import java.io.File;
import java.io.IOException;
import java.lang.reflect.InvocationTargetException;
import java.lang.reflect.Method;
import java.lang.reflect.Modifier;
import java.net.URL;
import java.net.URLClassLoader;
import java.nio.file.Files;
import java.nio.file.Path;
import java.util.ArrayList;
import java.util.List;
import java.util.regex.Matcher;
import java.util.regex.Pattern;
import java.util.stream.Stream;
import javax.tools.ToolProvider;

/** What README.md tells holds: its program answers as it says, and its tests are those that there are. */
final class ReadmeTest {
    private static final Pattern BLOCK = Pattern.compile("```java\n(.*?)```", Pattern.DOTALL);
    /** A call, or a number that becomes what a call answers, and the answer that is told behind it. */
    private static final Pattern TOLD = Pattern.compile("(int \\w+ = )?(x\\.(\\w+)\\(.*\\)); +// (-?\\d+): .+");
    private static final Pattern CALL = Pattern.compile("x\\.(\\w+)\\(");
    private static final Pattern TEST = Pattern.compile("`(\\w+Test|AllTests|Check|Scene|Model)`");

    private ReadmeTest() {
    }

    static void run() {
        try {
            String readme = Files.readString(Path.of("README.md"));
            String program = program(readme);
            answersAreAsTold(program);
            everyCallIsTold(program);
            refusalsAreTold(readme);
            testsAreTold(readme);
            filesAreThere(readme);
        } catch (IOException e) {
            throw new IllegalStateException("README.md", e);
        }
    }

    private static String program(String readme) {
        StringBuilder program = new StringBuilder();
        Matcher block = BLOCK.matcher(readme);
        while (block.find()) {
            program.append(block.group(1));
        }
        return program.toString();
    }

    /** Compiled as README.md says, the class beside the file that uses it. */
    private static void answersAreAsTold(String program) throws IOException {
        Path place = Files.createTempDirectory("readme");
        try {
            Path panes = Files.copy(Path.of("src/main/java/SlowPanes.java"), place.resolve("SlowPanes.java"));
            Path yours = Files.writeString(place.resolve("Yours.java"), yours(program));
            int failed = ToolProvider.getSystemJavaCompiler().run(null, null, null, "-d", place.toString(),
                panes.toString(), yours.toString());
            Check.due("README: its program compiles", failed, 0);
            if (failed == 0) {
                answered(place, program);
            }
        } finally {
            for (File file : place.toFile().listFiles()) {
                Files.delete(file.toPath());
            }
            Files.delete(place);
        }
    }

    private static String yours(String program) {
        StringBuilder text = new StringBuilder("public class Yours { public static void tell(java.util.List<String> "
            + "answers) {\n");
        for (String line : program.split("\n")) {
            Matcher told = TOLD.matcher(line);
            if (!told.matches()) {
                text.append(line).append('\n');
            } else if (told.group(1) == null) {
                text.append("answers.add(\"\" + ").append(told.group(2)).append(");\n");
            } else {
                text.append(line).append("\nanswers.add(\"\" + ").append(told.group(1).split(" ")[1]).append(");\n");
            }
        }
        return text.append("} }\n").toString();
    }

    private static void answered(Path place, String program) throws IOException {
        List<String> lines = new ArrayList<>();
        List<Integer> due = new ArrayList<>();
        for (String line : program.split("\n")) {
            Matcher told = TOLD.matcher(line);
            if (told.matches()) {
                lines.add(told.group(2));
                due.add(Integer.valueOf(told.group(4)));
            } else {
                Check.isTrue("README: an answer is told as others are: " + line, !line.contains("//"));
            }
        }
        List<String> answers = new ArrayList<>();
        try (URLClassLoader loader = new URLClassLoader(new URL[] {place.toUri().toURL()}, null)) {
            loader.loadClass("Yours").getMethod("tell", List.class).invoke(null, answers);
        } catch (ClassNotFoundException | NoSuchMethodException | IllegalAccessException
            | InvocationTargetException e) {
            throw new IllegalStateException("the program of README.md", e);
        }
        Check.due("README: how many answers", answers.size(), due.size());
        for (int i = 0; i < answers.size(); i++) {
            Check.due("README: " + lines.get(i), Integer.parseInt(answers.get(i)), due.get(i));
        }
    }

    private static void everyCallIsTold(String program) {
        List<String> told = new ArrayList<>();
        Matcher call = CALL.matcher(program);
        while (call.find()) {
            told.add(call.group(1));
        }
        for (Method method : SlowPanes.class.getDeclaredMethods()) {
            if (Modifier.isPublic(method.getModifiers())) {
                Check.isTrue("README: it shows " + method.getName() + "()", told.contains(method.getName()));
            }
        }
    }

    private static void refusalsAreTold(String readme) {
        String[] refusals = {SlowPanes.BAD + " `BAD`", SlowPanes.FULL + " `FULL`", SlowPanes.NONE + " `NONE`",
            SlowPanes.STATE + " `STATE`", "-9", "-11, -12, -13", "-14, -15", "-99", "-100 and below"};
        for (String refusal : refusals) {
            Check.isTrue("README: it tells of " + refusal, readme.contains("\n| " + refusal + " |"));
        }
    }

    private static void testsAreTold(String readme) throws IOException {
        String all = Files.readString(Path.of("src/test/java/AllTests.java"));
        try (Stream<Path> files = Files.list(Path.of("src/test/java"))) {
            for (Path file : files.toList()) {
                String name = file.getFileName().toString().replace(".java", "");
                Check.isTrue("README: it tells of " + name, readme.contains("`" + name + "`"));
                Check.isTrue("README: " + name + " is run", !name.endsWith("Test") || all.contains(name + ".run();"));
            }
        }
        Matcher test = TEST.matcher(readme);
        while (test.find()) {
            Check.isTrue("README: there is a " + test.group(1),
                Files.exists(Path.of("src/test/java", test.group(1) + ".java")));
        }
    }

    private static void filesAreThere(String readme) {
        String[] files = {"src/main/java/SlowPanes.java", "../shared/DOC.md", "../shared/LANGUAGE.md", "src/test/java",
            "../shared/tests", ".ci/run"};
        for (String file : files) {
            Check.isTrue("README: it tells of " + file, readme.contains(file));
            Check.isTrue("README: there is " + file, Files.exists(Path.of(file)));
        }
        Check.isTrue("README: .ci/run can be run", Files.isExecutable(Path.of(".ci/run")));
    }
}
