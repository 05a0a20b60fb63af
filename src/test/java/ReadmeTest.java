import java.io.IOException;
import java.io.StringWriter;
import java.lang.reflect.InvocationTargetException;
import java.net.URL;
import java.net.URLClassLoader;
import java.nio.file.Files;
import java.nio.file.Path;
import java.util.ArrayList;
import java.util.List;
import java.util.regex.Matcher;
import java.util.regex.Pattern;
import javax.tools.JavaCompiler;
import javax.tools.StandardJavaFileManager;
import javax.tools.ToolProvider;

/** What README.md shows: each example answers as its comment begins, each test is in its list. */
public final class ReadmeTest {
    private static final Check CHECK = new Check("ReadmeTest");
    private static final Pattern NAMED = Pattern.compile("\\w+ (\\w+) = .*");
    private static final Path TESTS = Path.of("src/test/java");

    public static void main(String[] args) throws Exception {
        List<String> lines = Files.readAllLines(Path.of("README.md"));
        List<List<String>> examples = examples(lines);
        CHECK.due("examples", examples.size() >= 6 ? 1 : 0, 1);
        run(examples);
        everyCall(examples);
        tests(lines);
        commands(lines);
        CHECK.end();
    }

    private static List<List<String>> examples(List<String> lines) {
        List<List<String>> examples = new ArrayList<>();
        List<String> open = null;
        for (String line : lines) {
            if (line.equals("```java")) {
                open = new ArrayList<>();
                examples.add(open);
            } else if (line.equals("```")) {
                open = null;
            } else if (open != null) {
                open.add(line);
            }
        }
        return examples;
    }

    /** What a comment says that is due: its first word, a constant of the class by its name. */
    private static String due(String comment) {
        String word = comment.trim().split("[: ]")[0];
        switch (word) {
            case "BAD": return "" + WishedResistor.BAD;
            case "NOT": return "" + WishedResistor.NOT;
            case "FULL": return "" + WishedResistor.FULL;
            case "STATE": return "" + WishedResistor.STATE;
            case "LONG": return "" + WishedResistor.LONG;
            case "VOID": return "" + WishedResistor.VOID;
            default: return word;
        }
    }

    private static String checked(String line) {
        int comment = line.indexOf(" // ");
        if (comment < 0) {
            return line + "\n";
        }
        String code = line.substring(0, comment).trim();
        String due = due(line.substring(comment + 4));
        Matcher named = NAMED.matcher(code);
        boolean isNamed = named.matches();
        String what = isNamed ? named.group(1) : code.substring(0, code.length() - 1);
        String shown = code.replace("\\", "\\\\").replace("\"", "\\\"");
        return (isNamed ? code + "\n" : "") + "ReadmeTest.answers(\"" + shown + "\", String.valueOf(" + what + "), \"" + due + "\");\n";
    }

    /** Called by what is made of the examples. */
    public static void answers(String call, String got, String due) {
        CHECK.text(call, got, due);
    }

    private static void run(List<List<String>> examples) throws IOException, ReflectiveOperationException {
        StringBuilder source = new StringBuilder("public final class Examples {\n");
        for (int i = 0; i < examples.size(); i++) {
            source.append("public static void example").append(i).append("() {\n");
            for (String line : examples.get(i)) {
                source.append(checked(line));
            }
            source.append("}\npublic static void asShown").append(i).append("() {\n");
            for (String line : examples.get(i)) {
                source.append(line).append("\n");
            }
            source.append("}\n");
        }
        source.append("}\n");
        Path folder = Files.createTempDirectory("readme");
        Path file = folder.resolve("Examples.java");
        Files.writeString(file, source);
        boolean isCompiled = compile(folder, file);
        CHECK.due("the examples compile", isCompiled ? 1 : 0, 1);
        if (isCompiled) {
            callAll(folder, examples.size());
        }
        Files.deleteIfExists(folder.resolve("Examples.class"));
        Files.deleteIfExists(file);
        Files.deleteIfExists(folder);
    }

    private static boolean compile(Path folder, Path file) throws IOException {
        JavaCompiler compiler = ToolProvider.getSystemJavaCompiler();
        StringWriter told = new StringWriter();
        try (StandardJavaFileManager files = compiler.getStandardFileManager(null, null, null)) {
            List<String> options = List.of("-d", folder.toString(), "-cp", System.getProperty("java.class.path"));
            boolean isRight = compiler.getTask(told, files, null, options, null, files.getJavaFileObjects(file)).call();
            if (!isRight) {
                System.out.println(told);
            }
            return isRight;
        }
    }

    private static void callAll(Path folder, int many) throws IOException, ReflectiveOperationException {
        try (URLClassLoader loader = new URLClassLoader(new URL[] {folder.toUri().toURL()}, ReadmeTest.class.getClassLoader())) {
            Class<?> made = loader.loadClass("Examples");
            for (int i = 0; i < many; i++) {
                try {
                    made.getMethod("example" + i).invoke(null);
                    made.getMethod("asShown" + i).invoke(null);
                } catch (InvocationTargetException e) {
                    CHECK.text("example " + i, "throws " + e.getCause(), "throws nothing");
                }
            }
        }
    }

    /** Each call of an example tells what it answers, but for those in a loop. */
    private static void everyCall(List<List<String>> examples) {
        for (List<String> example : examples) {
            CHECK.text("an example begins", example.get(0), "WishedResistor x = new WishedResistor();");
            for (String line : example) {
                boolean isTold = !line.contains("x.") || line.startsWith(" ") || line.contains(" // ");
                CHECK.due("what it answers is told: " + line, isTold ? 1 : 0, 1);
            }
        }
    }

    private static void tests(List<String> lines) throws IOException {
        StringBuilder table = new StringBuilder();
        for (String line : lines) {
            if (line.startsWith("| `")) {
                table.append(line.split("\\|")[1]);
            }
        }
        List<String> named = new ArrayList<>();
        Matcher names = Pattern.compile("`(\\w+)`").matcher(table);
        while (names.find()) {
            named.add(names.group(1));
            CHECK.due(names.group(1) + " is there", Files.exists(TESTS.resolve(names.group(1) + ".java")) ? 1 : 0, 1);
        }
        try (var files = Files.list(TESTS)) {
            for (Path file : (Iterable<Path>) files::iterator) {
                String name = file.getFileName().toString().replace(".java", "");
                boolean isListed = named.contains(name) || !name.endsWith("Test") && lines.toString().contains("`" + name + "`");
                CHECK.due(name + " is in README.md", isListed ? 1 : 0, 1);
            }
        }
    }

    /** How the tests are run, and where all that is named lies. */
    private static void commands(List<String> lines) {
        CHECK.due("the command is told", lines.contains("bash .ci/run") ? 1 : 0, 1);
        CHECK.due("it can be run", Files.isExecutable(Path.of(".ci/run")) ? 1 : 0, 1);
        String[] paths = {"src/main/java/WishedResistor.java", "../shared/DOC.md", "../shared/LANGUAGE.md", "../shared/tests", "src/test/java"};
        for (String path : paths) {
            CHECK.due(path + " is named", lines.toString().contains("`" + path + "`") ? 1 : 0, 1);
            CHECK.due(path + " is there", Files.exists(Path.of(path)) ? 1 : 0, 1);
        }
    }
}
