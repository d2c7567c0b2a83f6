import java.io.IOException;
import java.lang.reflect.Method;
import java.lang.reflect.Modifier;
import java.net.URL;
import java.net.URLClassLoader;
import java.nio.file.Files;
import java.nio.file.Path;
import java.util.Comparator;
import java.util.List;
import java.util.regex.Matcher;
import java.util.regex.Pattern;
import java.util.stream.Collectors;
import java.util.stream.Stream;
import javax.tools.ToolProvider;

/** Compiles and runs the code of README.md: each call answers what is told behind it. */
public final class ReadmeTest {
    private static final Pattern BLOCK = Pattern.compile("(?s)```java\n(.*?)```");
    /** A call, and the answer that is told behind it. */
    private static final Pattern CALL = Pattern.compile("^((?:x\\.\\w+|law)\\(.*\\));\\s*// (-?\\d+|true|false)(?::.*)?$");
    private static final Pattern NEW = Pattern.compile("^FarFromAnybody x = new FarFromAnybody\\(\\);(\\s*//.*)?$");
    private static final int LEAST_CALLS = 60;

    private static int calls;

    public static void main(String[] args) throws Exception {
        Check.about("README.md");
        String readme = Files.readString(Path.of("README.md"));
        namesEveryCall(readme);
        Path room = Files.createTempDirectory("readme");
        try {
            run(sourceOf(readme), room);
        } finally {
            remove(room);
        }
        Check.due("calls that are told with their answers are seen", calls >= LEAST_CALLS, true);
        Check.end();
    }

    private static void namesEveryCall(String readme) {
        for (Method method : FarFromAnybody.class.getDeclaredMethods()) {
            if (Modifier.isPublic(method.getModifiers())) {
                boolean named = Pattern.compile("\\b" + method.getName() + "\\(").matcher(readme).find();
                Check.due("README.md names " + method.getName(), named, true);
            }
        }
    }

    /** The helpers of the page as they stand, every other block as a method that asks for its answers. */
    private static String sourceOf(String readme) {
        StringBuilder helpers = new StringBuilder();
        StringBuilder runs = new StringBuilder();
        Matcher block = BLOCK.matcher(readme);
        while (block.find()) {
            if (block.group(1).startsWith("static ")) {
                helpers.append(block.group(1));
            } else {
                runs.append("{\n").append(asked(block.group(1))).append("}\n");
            }
        }
        return "public final class Readme {\n" + helpers + "public static void run() {\n" + runs + "}\n}\n";
    }

    private static String asked(String block) {
        StringBuilder b = new StringBuilder();
        for (String line : block.split("\n")) {
            Matcher call = CALL.matcher(line);
            if (call.matches()) {
                calls++;
                String text = call.group(1).replace("\"", "'");
                b.append("ReadmeTest.due(\"").append(text).append("\", ").append(call.group(1)).append(", ").append(call.group(2)).append(");\n");
            } else {
                Check.due("a line of code that tells its answer: " + line, NEW.matcher(line).matches(), true);
                b.append(line).append("\n");
            }
        }
        return b.toString();
    }

    private static void run(String source, Path room) throws Exception {
        Path file = room.resolve("Readme.java");
        Files.writeString(file, source);
        String own = System.getProperty("java.class.path");
        int failed = ToolProvider.getSystemJavaCompiler().run(null, null, null, "-proc:none", "-cp", own, "-d", room.toString(), file.toString());
        Check.due("the code compiles", failed, 0);
        if (failed == 0) {
            try (URLClassLoader loader = new URLClassLoader(new URL[] {room.toUri().toURL()}, ReadmeTest.class.getClassLoader())) {
                loader.loadClass("Readme").getMethod("run").invoke(null);
            }
        }
    }

    public static void due(String call, int got, int want) {
        Check.due(call, got, want);
    }

    public static void due(String call, boolean got, boolean want) {
        Check.due(call, got, want);
    }

    private static void remove(Path room) throws IOException {
        List<Path> all;
        try (Stream<Path> paths = Files.walk(room)) {
            all = paths.sorted(Comparator.reverseOrder()).collect(Collectors.toList());
        }
        for (Path path : all) {
            Files.delete(path);
        }
    }
}
