import java.io.IOException;
import java.lang.reflect.Executable;
import java.lang.reflect.Modifier;
import java.nio.charset.StandardCharsets;
import java.nio.file.Files;
import java.nio.file.Path;
import java.util.Arrays;
import java.util.HashSet;
import java.util.List;
import java.util.Set;
import java.util.regex.MatchResult;
import java.util.regex.Pattern;

/** What a look at the text can tell of LANGUAGE.md. Run from the project's folder. */
public final class LanguageTest {
    private static final Path SOURCE = Path.of("src/main/java/Postunion.java");
    private static final int MOST_LINES_OF_A_METHOD = 60;
    private static final int MOST_PARAMETERS = 7;
    private static final int MOST_FIELDS = 20;
    /** Of what rules 4 and 6 list, what a class like this one can need. */
    private static final Set<String> OF_THE_LIBRARY = Set.of("Arrays.copyOf", "Arrays.copyOfRange", "Arrays.fill",
        "System.arraycopy", "Math.max", "Math.min", "Math.abs", "Math.floorDiv", "Math.floorMod", "String",
        "IllegalStateException", "IllegalArgumentException", "IndexOutOfBoundsException");
    private static final String[] FORBIDDEN = {
        "->", "::", "\\btry\\b", "\\bcatch\\b", "\\bfinally\\b", "\\bassert\\b", "\\bsynchronized\\b",
        "\\bvar\\b", "\\bnative\\b", "\\bvolatile\\b", "\\btransient\\b", "static \\{", "^package\\b", "@\\w+",
        "Exact\\b", "\\bSystem\\.(?!arraycopy)", "\\bThread\\b", "\\bRandom\\b", "\\bString\\.(?!\\w*$)",
        "\\.(equals|hashCode|toString)\\(", "\\bprotected\\b", "\\bfloat\\b", "\\bdouble\\b", "/ 0\\b"};

    private static final Checks checks = new Checks("LanguageTest");

    public static void main(String[] args) throws IOException {
        List<String> lines = Files.readAllLines(SOURCE, StandardCharsets.UTF_8);
        StringBuilder code = new StringBuilder();
        for (String line : lines) {
            checks.is("signs 32 to 126 alone: " + line, line.chars().allMatch(sign -> sign >= 32 && sign <= 126), true);
            code.append(withoutComment(line)).append('\n');
        }
        for (String forbidden : FORBIDDEN) {
            checks.is("has " + forbidden, Pattern.compile(forbidden, Pattern.MULTILINE).matcher(code).find(), false);
        }
        for (String line : lines) {
            checks.is(line, line.startsWith("import ") && !line.equals("import java.util.Arrays;"), false);
        }
        checks.is("public classes", count(code, "\\bpublic (final )?class\\b"), 1);
        checks.is("a public member inside", count(code, "\n {8,}public "), 0);
        checks.is("more than twelve classes", count(code, "\\bclass \\w+") > 12, false);
        checkMethodsAreShort(lines);
        checkNames(code);
        checkSizes(Postunion.class);
        for (Class<?> inside : Postunion.class.getDeclaredClasses()) {
            checkSizes(inside);
        }
        checks.end();
    }

    /** Names of classes, and what is used of the library's: those alone that rules 4 and 6 list. */
    private static void checkNames(CharSequence code) {
        Set<String> own = new HashSet<>(Set.of("Postunion"));
        for (Class<?> inside : Postunion.class.getDeclaredClasses()) {
            own.add(inside.getSimpleName());
        }
        for (MatchResult name : Pattern.compile("(?<!\\.)\\b[A-Z]\\w*[a-z]\\w*(\\.\\w+)?").matcher(code).results().toList()) {
            String used = name.group();
            boolean isOwn = own.contains(used.replaceAll("\\..*", ""));
            checks.is("uses " + used, isOwn || OF_THE_LIBRARY.contains(used), true);
        }
    }

    private static void checkSizes(Class<?> of) {
        long fields = Arrays.stream(of.getDeclaredFields()).filter(field -> !Modifier.isStatic(field.getModifiers())).count();
        checks.is("fields of " + of, fields > MOST_FIELDS, false);
        for (Executable method : of.getDeclaredMethods()) {
            checks.is("parameters of " + method, method.getParameterCount() > MOST_PARAMETERS, false);
        }
        for (Executable constructor : of.getDeclaredConstructors()) {
            checks.is("parameters of " + constructor, constructor.getParameterCount() > MOST_PARAMETERS, false);
        }
    }

    private static String withoutComment(String line) {
        String text = line.strip();
        boolean isComment = text.startsWith("//") || text.startsWith("*") || text.startsWith("/*");
        return isComment ? "" : line.replaceAll("\"[^\"]*\"", "\"\"");
    }

    private static int count(CharSequence code, String sought) {
        return (int) Pattern.compile(sought).matcher(code).results().count();
    }

    private static void checkMethodsAreShort(List<String> lines) {
        Pattern head = Pattern.compile("( {4}| {8})(public |private |static |final )*[\\w\\[\\]]+ ?\\w*\\(.*");
        for (int at = 0; at < lines.size(); at++) {
            if (!head.matcher(lines.get(at)).matches()) {
                continue;
            }
            String indent = lines.get(at).replaceAll("\\S.*", "");
            int end = at;
            while (end < lines.size() && !lines.get(end).equals(indent + "}")) {
                end++;
            }
            checks.is("a long method: " + lines.get(at), end - at + 1 > MOST_LINES_OF_A_METHOD && end < lines.size(), false);
        }
    }
}
