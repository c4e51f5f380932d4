import java.io.IOException;
import java.lang.reflect.Method;
import java.lang.reflect.Modifier;
import java.nio.file.Files;
import java.nio.file.Path;
import java.util.Arrays;
import java.util.List;
import java.util.Set;
import java.util.TreeSet;
import java.util.regex.Matcher;
import java.util.regex.Pattern;
import java.util.stream.Stream;

/** What README.md says: its calls answer as told, every call and every test is in it, its command runs all tests. */
public final class ReadmeTest {
    private static final Pattern CALL = Pattern.compile("profile\\.(\\w+)\\((.*)\\); +// (true|false|-?\\d+): .*");
    private static final Check CHECK = new Check();

    public static void main(String[] args) throws IOException, ReflectiveOperationException {
        String readme = Files.readString(Path.of("README.md"));
        Set<String> called = example(block(readme, "java"));
        for (Method method : GlobProfile.class.getDeclaredMethods()) {
            if (Modifier.isPublic(method.getModifiers())) {
                CHECK.due("the example calls " + method.getName(), called.contains(method.getName()), true);
                CHECK.due("README.md tells of " + method.getName(), isTold(readme, method), true);
            }
        }
        tests(readme);
        command(block(readme, "sh"));
        CHECK.end();
    }

    private static List<String> block(String readme, String language) {
        Matcher block = Pattern.compile("```" + language + "\n(.*?)\n```", Pattern.DOTALL).matcher(readme);
        boolean found = block.find();
        CHECK.due("README.md has a block of " + language, found, true);
        return found ? Arrays.asList(block.group(1).split("\n")) : List.of();
    }

    private static Set<String> example(List<String> lines) throws ReflectiveOperationException {
        Set<String> called = new TreeSet<>();
        GlobProfile profile = new GlobProfile();
        for (String line : lines) {
            Matcher call = CALL.matcher(line);
            if (call.matches()) {
                called.add(call.group(1));
                String answer = String.valueOf(answer(profile, call.group(1), call.group(2)));
                CHECK.same(line, answer, call.group(3));
            } else {
                CHECK.same("the line of README.md", line, "GlobProfile profile = new GlobProfile();");
            }
        }
        return called;
    }

    private static Object answer(GlobProfile profile, String name, String arguments) throws ReflectiveOperationException {
        Object[] values = arguments.isEmpty() ? new Object[0]
                : Stream.of(arguments.split(", ")).map(ReadmeTest::value).toArray();
        for (Method method : GlobProfile.class.getDeclaredMethods()) {
            if (method.getName().equals(name) && method.getParameterCount() == values.length) {
                return method.invoke(profile, values);
            }
        }
        return "no such call";
    }

    private static Object value(String text) {
        if (text.equals("true") || text.equals("false")) {
            return text.equals("true");
        }
        return text.startsWith("'") ? (int) text.charAt(1) : Integer.decode(text);
    }

    private static boolean isTold(String readme, Method method) {
        String parameters = method.getParameterCount() == 0 ? "" : "[^,)]+" + ", [^,)]+".repeat(method.getParameterCount() - 1);
        return Pattern.compile("\\|.*`" + method.getName() + "\\(" + parameters + "\\)`.*\\|").matcher(readme).find();
    }

    private static void tests(String readme) throws IOException {
        try (Stream<Path> files = Files.list(Path.of("src/test/java"))) {
            for (Path file : files.toList()) {
                String name = file.getFileName().toString().replace(".java", "");
                CHECK.due("README.md tells of " + name, readme.contains("`" + name + "`"), true);
            }
        }
    }

    private static void command(List<String> lines) throws IOException {
        CHECK.same("the command of README.md", String.join("\n", lines), ".ci/run");
        Path script = Path.of(".ci/run");
        CHECK.due(".ci/run can be run", Files.isExecutable(script), true);
        String text = Files.readString(script);
        for (String tests : List.of("../shared/tests", "src/test/java")) {
            CHECK.due(".ci/run runs " + tests, text.contains("\nrun_all " + tests + " "), true);
        }
    }
}
