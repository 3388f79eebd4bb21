import java.io.IOException;
import java.lang.reflect.Method;
import java.lang.reflect.Modifier;
import java.net.URL;
import java.net.URLClassLoader;
import java.nio.file.Files;
import java.nio.file.Path;
import java.util.ArrayList;
import java.util.List;
import java.util.regex.Matcher;
import java.util.regex.Pattern;
import java.util.spi.ToolProvider;

/** Runs the examples that stand in README.md and compares each answer with the number told behind the call. */
public final class ReadmeTest {
    private static final Pattern CALL = Pattern.compile("((?:calls\\.|put\\().*);\\s*// (-?\\d+)(?::.*)?");
    private static final String MADE = "ReadmeExamples";

    /** The calls of one example, and the answers that README.md tells. */
    private static final class Example {
        private final List<String> calls = new ArrayList<>();
        private final List<Long> answers = new ArrayList<>();
    }

    private ReadmeTest() {
    }

    public static void main(String[] args) throws IOException, ReflectiveOperationException {
        List<Example> examples = new ArrayList<>();
        String source = sourceOf(codeBlocks(Files.readString(Path.of("README.md"))), examples);
        Checks.due("examples with calls", examples.size(), 2);
        everyMethodIsShown(examples);
        Path folder = Files.createTempDirectory("readme");
        try {
            if (compile(folder, source)) {
                compare(folder, examples);
            }
        } finally {
            remove(folder);
        }
        Checks.end();
    }

    private static List<String> codeBlocks(String readme) {
        List<String> blocks = new ArrayList<>();
        Matcher block = Pattern.compile("(?s)\n```java\n(.*?)\n```\n").matcher(readme);
        while (block.find()) {
            blocks.add(block.group(1));
        }
        return blocks;
    }

    /** A class with the blocks: a method as it stands, calls as a method of their own that gives their answers. */
    private static String sourceOf(List<String> blocks, List<Example> examples) {
        StringBuilder all = new StringBuilder("public final class " + MADE + " {\n");
        for (String block : blocks) {
            if (block.startsWith("static ")) {
                all.append(block).append('\n');
            } else {
                all.append("public static long[] example").append(examples.size()).append("() {\n");
                all.append("long[] answers = new long[512];\n");
                examples.add(addRows(block, all));
                all.append("return answers;\n}\n");
            }
        }
        return all.append("}\n").toString();
    }

    private static Example addRows(String block, StringBuilder all) {
        Example example = new Example();
        for (String row : block.split("\n")) {
            Matcher call = CALL.matcher(row);
            if (call.matches()) {
                all.append("answers[").append(example.calls.size()).append("] = ").append(call.group(1)).append(";\n");
                example.calls.add(call.group(1));
                example.answers.add(Long.parseLong(call.group(2)));
            } else {
                Checks.dueSame("a row without an answer", row, "NameCalls calls = new NameCalls();");
                all.append(row).append('\n');
            }
        }
        return example;
    }

    private static void everyMethodIsShown(List<Example> examples) {
        for (Method method : NameCalls.class.getDeclaredMethods()) {
            if (method.getModifiers() == Modifier.PUBLIC) {
                boolean shown = false;
                for (Example example : examples) {
                    shown |= example.calls.stream().anyMatch(call -> call.startsWith("calls." + method.getName() + "("));
                }
                Checks.due("shown in an example as 1: " + method.getName(), shown ? 1 : 0, 1);
            }
        }
    }

    private static boolean compile(Path folder, String source) throws IOException {
        Path file = folder.resolve(MADE + ".java");
        Files.writeString(file, source);
        int exit = ToolProvider.findFirst("javac").orElseThrow().run(System.out, System.out,
            "-encoding", "UTF-8", "-cp", System.getProperty("java.class.path"), "-d", folder.toString(), file.toString());
        Checks.due("javac of the examples", exit, 0);
        return exit == 0;
    }

    private static void compare(Path folder, List<Example> examples) throws IOException, ReflectiveOperationException {
        try (URLClassLoader loader = new URLClassLoader(new URL[] {folder.toUri().toURL()}, ReadmeTest.class.getClassLoader())) {
            Class<?> made = loader.loadClass(MADE);
            for (int i = 0; i < examples.size(); i++) {
                Example example = examples.get(i);
                long[] got = (long[]) made.getMethod("example" + i).invoke(null);
                for (int j = 0; j < example.calls.size(); j++) {
                    Checks.due("README.md: " + example.calls.get(j), got[j], example.answers.get(j));
                }
            }
        }
    }

    private static void remove(Path folder) throws IOException {
        try (var files = Files.list(folder)) {
            for (Path file : files.toList()) {
                Files.delete(file);
            }
        }
        Files.delete(folder);
    }
}
