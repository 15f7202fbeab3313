import java.io.IOException;
import java.lang.reflect.InvocationTargetException;
import java.net.URL;
import java.net.URLClassLoader;
import java.nio.file.Files;
import java.nio.file.Path;
import java.util.ArrayList;
import java.util.List;
import java.util.regex.Matcher;
import java.util.regex.Pattern;
import javax.tools.ToolProvider;

/** The lines of README.md that use the class: they compile, and answer what stands behind them. */
final class ReadmeTest {
    private static final Path FOLDER = Path.of("build", "readme");
    private static final Pattern BLOCK = Pattern.compile("```java\n(.*?)```", Pattern.DOTALL);
    private static final Pattern ANSWERED = Pattern.compile("(?:int (\\w+) = )?(.*); // = (.*)");

    private final StringBuilder code = new StringBuilder("public final class ReadmeLines {\n");
    private final List<String> asked = new ArrayList<>();

    public static void main(String[] args) throws IOException, ReflectiveOperationException {
        new ReadmeTest().check();
        Check.close("ReadmeTest");
    }

    private void check() throws IOException, ReflectiveOperationException {
        code.append("    public static void run(java.util.List<long[]> answers) {\n");
        Matcher block = BLOCK.matcher(Files.readString(Path.of("README.md")));
        while (block.find()) {
            for (String line : block.group(1).split("\n")) {
                put(line);
            }
        }
        code.append("    }\n}\n");
        Check.due("there are answers", true, asked.size() > 20);
        Check.due("the lines compile", true, isCompiled());
        List<long[]> answers = new ArrayList<>();
        run(answers);
        Check.due("all lines were run", asked.size(), answers.size());
        for (int i = 0; i < answers.size(); i++) {
            Check.due(asked.get(i), answers.get(i)[0], answers.get(i)[1]);
        }
    }

    private void put(String line) {
        Matcher answered = ANSWERED.matcher(line);
        if (!answered.matches()) {
            code.append(line).append('\n');
            return;
        }
        String name = answered.group(1);
        if (name != null) {
            code.append("int ").append(name).append(" = ").append(answered.group(2)).append(";\n");
        }
        String value = name == null ? answered.group(2) : name;
        code.append("answers.add(new long[] {").append(answered.group(3)).append(", ").append(value).append("});\n");
        asked.add(answered.group(2));
    }

    private boolean isCompiled() throws IOException {
        Files.createDirectories(FOLDER);
        Path file = FOLDER.resolve("ReadmeLines.java");
        Files.writeString(file, code.toString());
        String path = System.getProperty("java.class.path");
        return ToolProvider.getSystemJavaCompiler().run(null, null, null, "-cp", path, "-d", FOLDER.toString(), file.toString()) == 0;
    }

    private static void run(List<long[]> answers) throws IOException, ReflectiveOperationException {
        try (URLClassLoader loader = new URLClassLoader(new URL[] {FOLDER.toUri().toURL()})) {
            loader.loadClass("ReadmeLines").getMethod("run", List.class).invoke(null, answers);
        } catch (InvocationTargetException e) {
            Check.due("the lines throw " + e.getCause(), true, false);
        }
    }
}
