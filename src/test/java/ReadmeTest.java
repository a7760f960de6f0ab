import java.io.IOException;
import java.lang.reflect.Method;
import java.lang.reflect.Modifier;
import java.net.URL;
import java.net.URLClassLoader;
import java.nio.file.Files;
import java.nio.file.Path;
import java.util.ArrayList;
import java.util.List;
import java.util.Set;
import java.util.TreeSet;
import java.util.regex.Matcher;
import java.util.regex.Pattern;
import javax.tools.ToolProvider;

/** What README.md says of the class: its example answers as told, its table names every call. */
public final class ReadmeTest {
    private static final Pattern EXAMPLE = Pattern.compile("(?s)```java\n(.*?)```");
    /** A line of the example that names its answer; the comment begins with the number due. */
    private static final Pattern ANSWER =
            Pattern.compile("(?m)^(?:int|long) (\\w+) = x\\.\\w+\\(.*\\); *// (-?\\d+):");
    private static final Pattern TABLE =
            Pattern.compile("(?s)\\| calls \\| [^\n]*\n\\|[^\n]*\n(.*?)\n\n");
    private static final Pattern CALL = Pattern.compile("`(\\w+)`");

    public static void main(String[] args) throws Exception {
        String readme = Files.readString(Path.of("README.md"));
        theExample(only(EXAMPLE, readme));
        theTable(only(TABLE, readme));
        Check.end();
    }

    private static String only(Pattern pattern, String text) {
        Matcher matcher = pattern.matcher(text);
        return matcher.find() ? matcher.group(1) : "";
    }

    private static void theExample(String example) throws Exception {
        List<String> names = new ArrayList<>();
        List<Long> dues = new ArrayList<>();
        for (Matcher m = ANSWER.matcher(example); m.find();) {
            names.add(m.group(1));
            dues.add(Long.parseLong(m.group(2)));
        }
        long named = example.lines().filter(line -> line.matches("(int|long) .*")).count();
        Check.due("answers of the example that are told", names.size(), named);
        Check.dueTrue("the example has answers", !names.isEmpty());
        long[] got = run("public final class Example { public static long[] answers() {\n" + example
                + "return new long[] {" + String.join(", ", names) + "}; } }\n");
        Check.due("answers of the example", got.length, names.size());
        for (int k = 0; k < got.length; k++) {
            Check.due("README.md: " + names.get(k), got[k], dues.get(k));
        }
    }

    private static long[] run(String source) throws Exception {
        Path folder = Files.createTempDirectory("readme");
        Path file = folder.resolve("Example.java");
        try {
            Files.writeString(file, source);
            int code = ToolProvider.getSystemJavaCompiler().run(null, null, null,
                    "-cp", System.getProperty("java.class.path"), "-d", folder.toString(),
                    file.toString());
            return code == 0 ? answers(folder) : new long[0];
        } finally {
            remove(folder);
        }
    }

    private static long[] answers(Path folder) throws Exception {
        try (URLClassLoader loader = new URLClassLoader(new URL[] {folder.toUri().toURL()})) {
            return (long[]) loader.loadClass("Example").getMethod("answers").invoke(null);
        }
    }

    private static void remove(Path folder) throws IOException {
        for (String name : new String[] {"Example.java", "Example.class"}) {
            Files.deleteIfExists(folder.resolve(name));
        }
        Files.delete(folder);
    }

    private static void theTable(String table) {
        Set<String> told = new TreeSet<>();
        for (String line : table.split("\n")) {
            Matcher m = CALL.matcher(line.replaceFirst("^\\|([^|]*)\\|.*$", "$1"));
            while (m.find()) {
                Check.dueTrue(m.group(1) + " is told once", told.add(m.group(1)));
            }
        }
        Set<String> calls = new TreeSet<>();
        for (Method method : ChangingStars.class.getDeclaredMethods()) {
            if (Modifier.isPublic(method.getModifiers())) {
                calls.add(method.getName());
            }
        }
        Check.dueTrue("the table tells " + told + ", the calls are " + calls, told.equals(calls));
    }
}
