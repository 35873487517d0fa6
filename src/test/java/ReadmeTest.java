import java.net.URL;
import java.net.URLClassLoader;
import java.nio.file.Files;
import java.nio.file.Path;
import java.util.List;
import java.util.regex.Matcher;
import java.util.regex.Pattern;
import javax.tools.JavaCompiler;
import javax.tools.ToolProvider;

/** The examples of README.md, compiled and run as they stand there: each answer is the number told behind it. */
public final class ReadmeTest {
    private static final Pattern BLOCK = Pattern.compile("(?ms)^```java\n(.*?)^```$");
    private static final Pattern TOLD = Pattern.compile("(x\\..*\\)); +// (-?[0-9]+)\\b.*");
    private static final int LEAST_ANSWERS = 25;

    private static int wrong = 0;
    private static int answers = 0;

    public static void main(String[] args) throws Exception {
        String page = Files.readString(Path.of(args.length > 0 ? args[0] : "README.md"));
        Path work = Files.createTempDirectory("readme");
        try {
            run(work, source(page));
        } finally {
            for (String name : List.of("Readme.java", "Readme.class", "")) {
                Files.deleteIfExists(work.resolve(name));
            }
        }
        if (answers < LEAST_ANSWERS) {
            wrong++;
            System.out.println("ReadmeTest: only " + answers + " answers were found");
        }
        if (wrong > 0) {
            System.exit(1);
        }
        System.out.println("ReadmeTest: " + answers + " answers as due");
    }

    /** Called by what is made of the page. */
    public static void due(String call, long got, long want) {
        answers++;
        if (got != want) {
            wrong++;
            System.out.println("ReadmeTest: " + call + " answered " + got + ", the page tells " + want);
        }
    }

    /** A block is a method or statements; these get a block each, since each makes its own object. */
    private static String source(String page) {
        StringBuilder methods = new StringBuilder();
        StringBuilder statements = new StringBuilder();
        Matcher block = BLOCK.matcher(page);
        while (block.find()) {
            if (block.group(1).startsWith("static ")) {
                methods.append(block.group(1));
            } else {
                statements.append("{\n").append(asked(block.group(1))).append("}\n");
            }
        }
        return "public final class Readme {\n" + methods + "public static void run() {\n" + statements + "}\n}\n";
    }

    private static String asked(String block) {
        StringBuilder s = new StringBuilder();
        for (String line : block.split("\n")) {
            Matcher told = TOLD.matcher(line);
            s.append(told.matches() ? "ReadmeTest.due(\"" + told.group(1) + "\", " + told.group(1) + ", " + told.group(2) + ");" : line);
            s.append('\n');
        }
        return s.toString();
    }

    private static void run(Path work, String source) throws Exception {
        Path file = Files.writeString(work.resolve("Readme.java"), source);
        JavaCompiler compiler = ToolProvider.getSystemJavaCompiler();
        String path = System.getProperty("java.class.path");
        if (compiler == null || compiler.run(null, null, null, "-cp", path, "-d", work.toString(), file.toString()) != 0) {
            wrong++;
            System.out.println("ReadmeTest: the page's examples do not compile");
            return;
        }
        try (URLClassLoader loader = new URLClassLoader(new URL[] {work.toUri().toURL()})) {
            loader.loadClass("Readme").getMethod("run").invoke(null);
        }
    }
}
