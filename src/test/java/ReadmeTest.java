import java.io.IOException;
import java.lang.reflect.Method;
import java.lang.reflect.Modifier;
import java.net.URL;
import java.net.URLClassLoader;
import java.nio.file.Files;
import java.nio.file.Path;
import java.util.ArrayList;
import java.util.List;
import java.util.regex.Matcher;
import java.util.regex.Pattern;
import javax.tools.ToolProvider;

/** The example of README.md, compiled and run as it stands there. Runs in the project's directory. */
public final class ReadmeTest {
    private static final Check CHECK = new Check("ReadmeTest");

    /** A line of the example that keeps an answer and says behind it which one is due. */
    private static final Pattern ANSWER = Pattern.compile(
        "(?m)^(?:int|long|boolean) (\\w+) = (x\\..*); +// (true|false|-?\\d+)\\b");

    private record Answer(String name, String call, String due) { }

    public static void main(String[] args) throws IOException, ReflectiveOperationException {
        String text = Files.readString(Path.of("README.md"));
        String example = exampleIn(text);
        List<Answer> answers = answersIn(example);
        CHECK.yes("answers in the example, " + answers.size(), answers.size() >= 5);
        compare(answers, run(programOf(example, answers)));
        checkCallsNamed(text);
        CHECK.yes("how the tests are run", text.contains(".ci/run"));
        CHECK.end();
    }

    private static String exampleIn(String text) {
        Matcher block = Pattern.compile("(?s)```java\n(.*?)```").matcher(text);
        return block.find() ? block.group(1) : "";
    }

    private static List<Answer> answersIn(String example) {
        List<Answer> answers = new ArrayList<>();
        Matcher lines = ANSWER.matcher(example);
        while (lines.find()) {
            answers.add(new Answer(lines.group(1), lines.group(2), lines.group(3)));
        }
        return answers;
    }

    private static String programOf(String example, List<Answer> answers) {
        StringBuilder names = new StringBuilder();
        for (Answer answer : answers) {
            names.append("String.valueOf(").append(answer.name()).append("), ");
        }
        return "public final class Example {\npublic static String[] answers() {\n" + example
            + "return new String[] {" + names + "};\n}\n}\n";
    }

    private static String[] run(String program) throws IOException, ReflectiveOperationException {
        Path directory = Files.createTempDirectory("example");
        Path file = directory.resolve("Example.java");
        Path made = directory.resolve("Example.class");
        try {
            Files.writeString(file, program);
            String path = System.getProperty("java.class.path");
            int wrong = ToolProvider.getSystemJavaCompiler().run(null, null, null,
                "-cp", path, "-d", directory.toString(), file.toString());
            CHECK.due("compiling the example", wrong, 0);
            return wrong == 0 ? answersOf(directory) : new String[0];
        } finally {
            Files.deleteIfExists(made);
            Files.deleteIfExists(file);
            Files.deleteIfExists(directory);
        }
    }

    private static String[] answersOf(Path directory) throws IOException, ReflectiveOperationException {
        try (URLClassLoader loader = new URLClassLoader(new URL[] {directory.toUri().toURL()})) {
            return (String[]) loader.loadClass("Example").getMethod("answers").invoke(null);
        }
    }

    private static void compare(List<Answer> answers, String[] got) {
        CHECK.due("answers got", got.length, answers.size());
        for (int i = 0; i < got.length; i++) {
            Answer answer = answers.get(i);
            CHECK.yes(answer.call() + " answered " + got[i] + ", README.md says " + answer.due(),
                got[i].equals(answer.due()));
        }
    }

    private static void checkCallsNamed(String text) {
        for (Method method : ActChains.class.getDeclaredMethods()) {
            if (Modifier.isPublic(method.getModifiers())) {
                CHECK.yes("README.md names " + method.getName(), text.contains("`" + method.getName() + "`"));
            }
        }
    }
}
