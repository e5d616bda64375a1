import java.io.File;
import java.io.IOException;
import java.lang.reflect.Method;
import java.lang.reflect.Modifier;
import java.net.URL;
import java.net.URLClassLoader;
import java.nio.file.Files;
import java.nio.file.Path;
import java.util.ArrayList;
import java.util.List;
import java.util.regex.MatchResult;
import java.util.regex.Matcher;
import java.util.regex.Pattern;
import javax.tools.ToolProvider;

/** README.md says what stands: its examples answer what they say, and every call is named there. */
public final class ReadmeTest {
    private static final Pattern BLOCK = Pattern.compile("(?s)```java\n(.*?)```");
    private static final Pattern CALL = Pattern.compile("(?m)^(x\\..*);\\s*// (-?\\d+): .*$");

    private ReadmeTest() {
    }

    public static void main(String[] args) throws Exception {
        String readme = Files.readString(Path.of("README.md"));
        everyCallIsNamed(readme);
        examples(readme);
        Check.end();
    }

    private static void everyCallIsNamed(String readme) {
        for (Method method : GossipGate.class.getDeclaredMethods()) {
            if (Modifier.isPublic(method.getModifiers())) {
                String name = method.getName();
                Check.due(name + " is named", readme.contains("`" + name + "`") || readme.contains("`" + name + "()`")
                    ? 1 : 0, 1);
            }
        }
    }

    /** All examples are of one object, so they are run as one. */
    private static void examples(String readme) throws Exception {
        StringBuilder code = new StringBuilder();
        BLOCK.matcher(readme).results().forEach(block -> code.append(block.group(1)));
        List<MatchResult> calls = CALL.matcher(code).results().toList();
        List<?> got = answers(CALL.matcher(code).replaceAll(
            call -> Matcher.quoteReplacement("got.add((long) " + call.group(1) + ");")));
        Check.due("answers in README.md", got.size(), calls.size());
        Check.due("README.md has examples", calls.isEmpty() ? 0 : 1, 1);
        for (int c = 0; c < Math.min(got.size(), calls.size()); c++) {
            Check.due("in README.md " + calls.get(c).group(1), (Long) got.get(c), Long.parseLong(calls.get(c).group(2)));
        }
    }

    private static List<?> answers(String code) throws Exception {
        Path folder = Files.createTempDirectory("readme");
        try {
            Path source = folder.resolve("Examples.java");
            Files.writeString(source, "public final class Examples { public static java.util.List<Long> run() {\n"
                + "java.util.List<Long> got = new java.util.ArrayList<>();\n" + code + "return got; } }\n");
            int failed = ToolProvider.getSystemJavaCompiler().run(null, null, null, "--release", "17",
                "-cp", System.getProperty("java.class.path"), "-d", folder.toString(), source.toString());
            Check.due("javac of the examples", failed, 0);
            return failed == 0 ? runIn(folder) : new ArrayList<>();
        } finally {
            clear(folder);
        }
    }

    private static List<?> runIn(Path folder) throws Exception {
        try (URLClassLoader loader = new URLClassLoader(new URL[] {folder.toUri().toURL()})) {
            return (List<?>) loader.loadClass("Examples").getMethod("run").invoke(null);
        }
    }

    private static void clear(Path folder) throws IOException {
        File[] files = folder.toFile().listFiles();
        for (File file : files == null ? new File[0] : files) {
            Files.delete(file.toPath());
        }
        Files.delete(folder);
    }
}
