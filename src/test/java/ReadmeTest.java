import java.io.File;
import java.lang.reflect.Method;
import java.lang.reflect.Modifier;
import java.net.URL;
import java.net.URLClassLoader;
import java.nio.file.Files;
import java.nio.file.Path;
import java.util.ArrayList;
import java.util.List;
import java.util.regex.Matcher;
import java.util.regex.Pattern;
import javax.tools.ToolProvider;

/** What README.md tells of the class is so: its lines of Java answer what stands behind them, its table has every call. */
public final class ReadmeTest {
    private static final Pattern BLOCK = Pattern.compile("```java\\n(.*?)```", Pattern.DOTALL);
    private static final Pattern ANSWER = Pattern.compile("(?:int (\\w+) = )?(\\w+\\.\\w+\\(.*\\)); +// (-?\\d+)(:.*)?");
    private static int wrong = 0;
    private static int answers = 0;

    /** The lines that are run ask this of each answer. */
    public static void due(String call, long got, long want) {
        answers++;
        if (got != want) {
            wrong++;
            System.out.println("README.md: " + call + " answered " + got + ", told is " + want);
        }
    }

    private static String asked(String line) {
        Matcher answer = ANSWER.matcher(line);
        if (!answer.matches()) {
            return line;
        }
        String kept = answer.group(1) == null ? "" : "int " + answer.group(1) + " = " + answer.group(2) + ";";
        String got = answer.group(1) == null ? answer.group(2) : answer.group(1);
        return kept + "ReadmeTest.due(\"" + answer.group(2) + "\", " + got + ", " + answer.group(3) + ");";
    }

    private static void runLines(String readme) throws Exception {
        StringBuilder helpers = new StringBuilder();
        StringBuilder lines = new StringBuilder();
        int told = 0;
        for (Matcher block = BLOCK.matcher(readme); block.find();) {
            boolean isHelper = block.group(1).startsWith("static ");
            for (String line : block.group(1).split("\n")) {
                (isHelper ? helpers : lines).append(isHelper ? line : asked(line)).append('\n');
                told += !isHelper && line.contains("//") ? 1 : 0;
            }
        }
        Path out = Files.createTempDirectory("readme");
        Path source = out.resolve("ReadmeLines.java");
        Files.writeString(source, "public final class ReadmeLines {\n" + helpers + "public static void run() {\n" + lines + "}}\n");
        String path = System.getProperty("java.class.path");
        int failed = ToolProvider.getSystemJavaCompiler().run(null, null, null, "-cp", path, "-d", out.toString(), source.toString());
        if (failed == 0) {
            try (URLClassLoader loader = new URLClassLoader(new URL[] {out.toUri().toURL()}, ReadmeTest.class.getClassLoader())) {
                loader.loadClass("ReadmeLines").getMethod("run").invoke(null);
            }
        }
        due("answers told behind //", answers, told);
        due("lines that do not compile", failed, 0);
        clear(out.toFile());
    }

    private static void clear(File folder) {
        File[] files = folder.listFiles();
        for (File one : files == null ? new File[0] : files) {
            one.delete();
        }
        folder.delete();
    }

    private static void lookForCalls(String readme) {
        List<String> missing = new ArrayList<>();
        for (Method m : RookHouse.class.getDeclaredMethods()) {
            if (Modifier.isPublic(m.getModifiers()) && !Pattern.compile("\\|.*`" + m.getName() + "`.*\\|").matcher(readme).find()) {
                missing.add(m.getName());
            }
        }
        due("calls that the table lacks " + missing, missing.size(), 0);
        for (File test : new File("src/test/java").listFiles()) {
            String name = test.getName().replace(".java", "").replaceAll("^Boundary.*", "Boundary..Test");
            due("tells of " + name, readme.contains("- `" + name + "`") ? 1 : 0, 1);
        }
    }

    public static void main(String[] args) throws Exception {
        String readme = Files.readString(Path.of("README.md"));
        runLines(readme);
        lookForCalls(readme);
        System.out.println(wrong == 0 ? "README.md tells what is so" : wrong + " things in README.md are not so");
        if (wrong != 0) {
            System.exit(1);
        }
    }
}
