import java.io.IOException;
import java.lang.reflect.Method;
import java.net.URL;
import java.net.URLClassLoader;
import java.nio.file.Files;
import java.nio.file.Path;
import java.util.ArrayList;
import java.util.List;
import java.util.regex.Matcher;
import java.util.regex.Pattern;
import javax.tools.ToolProvider;

/**
 * The calls of README.md, compiled and run as they stand there, one behind the other on one object; each
 * must answer what stands behind it as a comment, up to a colon. Run from the project's folder.
 */
public final class ReadmeTest {
    private static final Pattern ANSWERED = Pattern.compile("(\\S.*);\\s*// ([^:]+)(:.*)?");
    private static final Checks checks = new Checks("ReadmeTest");

    public static void main(String[] args) throws IOException, ReflectiveOperationException {
        List<String> told = new ArrayList<>();
        Path folder = Files.createTempDirectory("readme");
        try {
            run(source(Files.readAllLines(Path.of("README.md"))), folder, told);
        } finally {
            remove(folder);
        }
        for (int i = 0; i + 2 < told.size(); i += 3) {
            checks.is(told.get(i), told.get(i + 1), told.get(i + 2));
        }
        checks.is("README.md tells of some answers", told.size() > 20 * 3, true);
        checks.end();
    }

    /** A class that adds to a list, for each answer of README.md, the call, what it answers and what is due. */
    private static String source(List<String> lines) {
        StringBuilder source = new StringBuilder("public final class Readme {\n");
        source.append("public static void run(java.util.List<String> told) {\n");
        boolean isCode = false;
        for (String line : lines) {
            if (line.startsWith("```")) {
                isCode = line.equals("```java");
            } else if (isCode) {
                source.append(statement(line)).append('\n');
            }
        }
        return source.append("}\n}\n").toString();
    }

    private static String statement(String line) {
        Matcher answered = ANSWERED.matcher(line);
        if (!answered.matches()) {
            return line;
        }
        String call = answered.group(1);
        return "told.add(\"" + call + "\"); told.add(String.valueOf(" + call + ")); told.add(String.valueOf("
            + answered.group(2) + "));";
    }

    private static void run(String source, Path folder, List<String> told)
            throws IOException, ReflectiveOperationException {
        Path file = folder.resolve("Readme.java");
        Files.writeString(file, source);
        int failed = ToolProvider.getSystemJavaCompiler().run(null, null, null,
            "-cp", System.getProperty("java.class.path"), "-d", folder.toString(), file.toString());
        checks.is("README.md does not compile", failed, 0);
        if (failed == 0) {
            try (URLClassLoader loader = new URLClassLoader(new URL[] {folder.toUri().toURL()})) {
                Method run = loader.loadClass("Readme").getMethod("run", List.class);
                run.invoke(null, told);
            }
        }
    }

    private static void remove(Path folder) throws IOException {
        for (String name : new String[] {"Readme.java", "Readme.class"}) {
            Files.deleteIfExists(folder.resolve(name));
        }
        Files.delete(folder);
    }
}
