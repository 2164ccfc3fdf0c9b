import java.io.File;
import java.io.IOException;
import java.lang.reflect.Method;
import java.lang.reflect.Modifier;
import java.net.URL;
import java.net.URLClassLoader;
import java.nio.file.Files;
import java.nio.file.Path;
import java.util.ArrayList;
import java.util.Arrays;
import java.util.HashSet;
import java.util.List;
import java.util.Set;
import java.util.TreeSet;
import java.util.regex.Matcher;
import java.util.regex.Pattern;
import javax.tools.ToolProvider;

/**
 * What README.md says must hold: the calls of its example, as they stand there, answer what stands behind
 * them, and it tells of each call of the face and of each test.
 */
public final class ReadmeTest extends Checks {
    private static final Path README = Path.of("README.md");
    private static final Path TESTS = Path.of("src/test/java");
    private static final Pattern CALL = Pattern.compile("(place\\.(\\w+)\\(.*\\)); *// (throws )?([-\\w.]+).*");

    private static List<String> blocks(String readme) {
        List<String> blocks = new ArrayList<>();
        Matcher block = Pattern.compile("```java\n(.*?)```", Pattern.DOTALL).matcher(readme);
        while (block.find()) {
            blocks.add(block.group(1));
        }
        return blocks;
    }

    /** Each call that has an answer behind it becomes an entry of the answers; other lines stay as they are. */
    private static String program(List<String> blocks, List<String> calls, List<String> due) {
        StringBuilder s = new StringBuilder("public final class ReadmeExample {\n");
        s.append("interface Call { Object answer(); }\n");
        s.append("static String told(Call call) { try { return String.valueOf(call.answer()); }");
        s.append(" catch (RuntimeException e) { return e.getClass().getSimpleName(); } }\n");
        s.append(blocks.get(0));
        s.append("public static java.util.List<String> answers() {\n");
        s.append("java.util.List<String> all = new java.util.ArrayList<>();\n");
        for (String line : blocks.get(1).split("\n")) {
            Matcher call = CALL.matcher(line);
            if (call.matches()) {
                calls.add(call.group(1));
                due.add(call.group(4));
                s.append("all.add(told(() -> ").append(call.group(1)).append("));\n");
            } else {
                holds(!line.startsWith("place."), "a call without an answer behind it: " + line);
                s.append(line).append('\n');
            }
        }
        return s.append("return all;\n}\n}\n").toString();
    }

    private static List<?> run(String program) throws IOException, ReflectiveOperationException {
        Path room = Files.createTempDirectory("readme");
        Path source = room.resolve("ReadmeExample.java");
        Path compiled = room.resolve("ReadmeExample.class");
        Path[] more = {room.resolve("ReadmeExample$Call.class"), compiled, source, room};
        try {
            Files.writeString(source, program);
            int failed = ToolProvider.getSystemJavaCompiler().run(null, null, null, "-proc:none", "-cp",
                System.getProperty("java.class.path"), "-d", room.toString(), source.toString());
            is(0, failed, "compiling the example");
            if (failed != 0) {
                return List.of();
            }
            try (URLClassLoader loader = new URLClassLoader(new URL[] {room.toUri().toURL()})) {
                return (List<?>) loader.loadClass("ReadmeExample").getMethod("answers").invoke(null);
            }
        } finally {
            for (Path p : more) {
                Files.deleteIfExists(p);
            }
        }
    }

    private static void theExample(String readme) throws IOException, ReflectiveOperationException {
        about("README.md, the example");
        List<String> blocks = blocks(readme);
        is(2, blocks.size(), "its blocks");
        if (blocks.size() != 2) {
            return;
        }
        List<String> calls = new ArrayList<>();
        List<String> due = new ArrayList<>();
        List<?> got = run(program(blocks, calls, due));
        is(calls.size(), got.size(), "its answers");
        for (int i = 0; i < got.size(); i++) {
            same(due.get(i), String.valueOf(got.get(i)), calls.get(i));
        }
    }

    private static void allCallsAreTold(String readme) {
        about("README.md, the calls");
        List<String> blocks = blocks(readme);
        String example = blocks.isEmpty() ? "" : String.join("", blocks);
        for (Method method : ShareTickets.class.getDeclaredMethods()) {
            if (Modifier.isPublic(method.getModifiers())) {
                holds(readme.contains("`" + method.getName() + "("), method.getName() + " is not told");
                holds(example.contains("place." + method.getName() + "("), method.getName() + " is not in the example");
            }
        }
    }

    private static void allTestsAreTold(String readme) {
        about("README.md, the tests");
        Set<String> told = new HashSet<>();
        Matcher name = Pattern.compile("\\w+\\.java").matcher(readme);
        while (name.find()) {
            told.add(name.group());
        }
        told.remove("ShareTickets.java");
        File[] files = TESTS.toFile().listFiles((dir, file) -> file.endsWith(".java"));
        Set<String> there = new TreeSet<>();
        Arrays.stream(files == null ? new File[0] : files).forEach(file -> there.add(file.getName()));
        same(there.toString(), new TreeSet<>(told).toString(), "the files under " + TESTS);
    }

    public static void main(String[] args) throws IOException, ReflectiveOperationException {
        String readme = Files.readString(README);
        allCallsAreTold(readme);
        allTestsAreTold(readme);
        theExample(readme);
        end("what README.md says holds");
    }
}
