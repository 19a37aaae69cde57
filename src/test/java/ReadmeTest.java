import java.io.IOException;
import java.lang.reflect.Method;
import java.lang.reflect.Modifier;
import java.net.URI;
import java.net.URL;
import java.net.URLClassLoader;
import java.nio.charset.StandardCharsets;
import java.nio.file.Files;
import java.nio.file.Path;
import java.util.ArrayList;
import java.util.Arrays;
import java.util.List;
import java.util.Locale;
import java.util.TreeMap;
import java.util.TreeSet;
import java.util.regex.Matcher;
import java.util.regex.Pattern;
import javax.tools.JavaCompiler;
import javax.tools.JavaFileObject;
import javax.tools.SimpleJavaFileObject;
import javax.tools.ToolProvider;

/**
 * What README.md says: its examples are compiled and run, its calls are those of the face, its reasons
 * are those of the document, and its tests are those that stand here. The arguments are the paths of
 * the class, the document and README.md.
 */
public final class ReadmeTest {
    private static final Pattern BLOCK = Pattern.compile("```java\n(.*?)```", Pattern.DOTALL);
    private static final Pattern ANSWERED = Pattern.compile("(x\\.\\w+\\(.*?\\)); +// (-?[0-9]+(?:\\.[0-9]+f?)?)\\b.*");
    private static final Pattern CALL_ROW = Pattern.compile("(?m)^\\| `(\\w+)\\(([^)]*)\\)` \\|");
    private static final Pattern ERROR_ROW = Pattern.compile("(?m)^\\| `([A-Z]+)` \\| (-\\d) \\|");
    private static final Pattern REASON_ROW = Pattern.compile("(?m)^\\| (\\d+) \\| ([^|]*) \\| ([^|]*) \\|$");
    private static final Pattern COMMAND = Pattern.compile("`([a-z]+ [0-9][0-9 ]*)`");
    private static final Pattern LINE = Pattern.compile("a line about [a-z ]*, such as `([^`]*)`");

    private ReadmeTest() {
    }

    public static void main(String[] args) throws Exception {
        if (args.length < 3) {
            System.out.println("the paths of the class, the document and README.md are missing");
            System.exit(1);
        }
        String readme = textOf(Path.of(args[2]));
        String document = textOf(Path.of(args[1])).replaceAll("\\s+", " ");
        examples(readme);
        calls(readme);
        errors(readme);
        reasons(readme, document);
        commands(readme);
        lines(readme, document);
        tests(readme, Path.of(args[2]).toAbsolutePath().getParent());
        Check.end();
    }

    private static String textOf(Path path) throws IOException {
        return Files.readString(path, StandardCharsets.UTF_8);
    }

    private static void examples(String readme) throws Exception {
        StringBuilder source = new StringBuilder("public final class ReadmeExamples {\n");
        List<String> calls = new ArrayList<>();
        List<String> answers = new ArrayList<>();
        int blocks = 0;
        Matcher block = BLOCK.matcher(readme);
        while (block.find()) {
            blocks++;
            source.append("public static void example").append(blocks);
            source.append("(java.util.List<Double> got) {\n");
            for (String line : block.group(1).split("\n")) {
                Matcher answered = ANSWERED.matcher(line);
                boolean isAnswered = answered.matches();
                Check.due("README.md: tells the answer of " + line, isAnswered ? 1 : 0, line.startsWith("x.") ? 1 : 0);
                if (isAnswered) {
                    calls.add(answered.group(1));
                    answers.add(answered.group(2));
                    source.append("got.add((double) ").append(answered.group(1)).append(");\n");
                } else {
                    source.append(line).append('\n');
                }
            }
            source.append("}\n");
        }
        source.append("}\n");
        Check.due("README.md: examples", blocks, 2);
        Check.due("README.md: answers in the examples are many", calls.size() >= 20 ? 1 : 0, 1);
        List<Double> got = run(source.toString(), blocks);
        for (int index = 0; index < got.size(); index++) {
            String due = answers.get(index);
            double number = due.endsWith("f") ? (double) Float.parseFloat(due) : Double.parseDouble(due);
            Check.dueExactly("README.md: " + calls.get(index), got.get(index), number);
        }
        Check.due("README.md: answers that were given", got.size(), calls.size());
    }

    private static List<Double> run(String source, int blocks) throws Exception {
        List<Double> got = new ArrayList<>();
        Path folder = Files.createTempDirectory("readme");
        JavaCompiler compiler = ToolProvider.getSystemJavaCompiler();
        List<String> options = Arrays.asList("-proc:none", "-d", folder.toString(), "-cp",
                System.getProperty("java.class.path"));
        JavaFileObject file = new SourceText("ReadmeExamples", source);
        boolean isCompiled = compiler.getTask(null, null, null, options, null, List.of(file)).call();
        Check.due("README.md: the examples compile", isCompiled ? 1 : 0, 1);
        if (isCompiled) {
            try (URLClassLoader loader = new URLClassLoader(new URL[] {folder.toUri().toURL()})) {
                Class<?> examples = loader.loadClass("ReadmeExamples");
                for (int block = 1; block <= blocks; block++) {
                    examples.getMethod("example" + block, List.class).invoke(null, got);
                }
            }
        }
        Files.deleteIfExists(folder.resolve("ReadmeExamples.class"));
        Files.deleteIfExists(folder);
        return got;
    }

    private static void calls(String readme) {
        TreeMap<String, Integer> told = new TreeMap<>();
        Matcher row = CALL_ROW.matcher(readme);
        while (row.find()) {
            told.put(row.group(1), row.group(2).isEmpty() ? 0 : row.group(2).split(",").length);
        }
        TreeMap<String, Integer> face = new TreeMap<>();
        for (Method method : CartArguments.class.getDeclaredMethods()) {
            if (Modifier.isPublic(method.getModifiers())) {
                face.put(method.getName(), method.getParameterCount());
            }
        }
        Check.dueText("README.md: the calls", told.toString(), face.toString());
    }

    private static void errors(String readme) throws Exception {
        int rows = 0;
        Matcher row = ERROR_ROW.matcher(readme);
        while (row.find()) {
            rows++;
            int value = CartArguments.class.getField(row.group(1)).getInt(null);
            Check.due("README.md: " + row.group(1), Integer.parseInt(row.group(2)), value);
        }
        Check.due("README.md: errors", rows, 4);
    }

    private static void reasons(String readme, String document) {
        int rows = 0;
        Matcher row = REASON_ROW.matcher(readme);
        while (row.find()) {
            rows++;
            Check.due("README.md: the number of a reason", Integer.parseInt(row.group(1)), rows);
            String reason = row.group(1) + ", " + row.group(2) + ": " + row.group(3);
            Check.due("README.md: " + reason, document.contains(reason) ? 1 : 0, 1);
        }
        Check.due("README.md: reasons", rows, 13);
    }

    /** Each command that is shown is one: a text of it alone has no fault. */
    private static void commands(String readme) {
        TreeSet<String> words = new TreeSet<>();
        Matcher command = COMMAND.matcher(readme);
        while (command.find()) {
            words.add(command.group(1).substring(0, command.group(1).indexOf(' ')));
            CartArguments x = new CartArguments();
            Check.say(x, command.group(1));
            Check.due("README.md: the fault of " + command.group(1), x.fault(), CartArguments.NOTHING);
        }
        String all = "[cart, conclusion, grease, load, premise, road, swap, trip, unload]";
        Check.dueText("README.md: the words of commands", words.toString(), all);
    }

    private static void lines(String readme, String document) {
        List<String> shown = new ArrayList<>();
        Matcher line = LINE.matcher(readme);
        while (line.find()) {
            shown.add(line.group(1));
            Check.due(line.group(1), document.contains("as in \"" + line.group(1) + "\"") ? 1 : 0, 1);
        }
        Check.due("README.md: lines", shown.size(), 2);
    }

    private static void tests(String readme, Path root) throws IOException {
        List<String> missing = new ArrayList<>();
        int found = 0;
        for (String name : root.resolve("src/test/java").toFile().list()) {
            if (name.toLowerCase(Locale.ROOT).endsWith("test.java")) {
                found++;
                String test = name.substring(0, name.indexOf('.'));
                if (!readme.contains("- `" + test + "`: ")) {
                    missing.add(test);
                }
            }
        }
        Check.due("tests are here", found > 0 ? 1 : 0, 1);
        Check.dueText("README.md: tests that it does not name", missing.toString(), "[]");
        Check.due("README.md: .ci/run", readme.contains("`bash .ci/run`") ? 1 : 0, 1);
    }

    private static final class SourceText extends SimpleJavaFileObject {
        private final String text;

        SourceText(String name, String text) {
            super(URI.create("string:///" + name + ".java"), Kind.SOURCE);
            this.text = text;
        }

        @Override
        public CharSequence getCharContent(boolean ignoreEncodingErrors) {
            return text;
        }
    }
}
