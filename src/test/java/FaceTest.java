import java.io.IOException;
import java.lang.reflect.Constructor;
import java.lang.reflect.Field;
import java.lang.reflect.Method;
import java.lang.reflect.Modifier;
import java.nio.file.Files;
import java.nio.file.Path;
import java.util.Arrays;
import java.util.HashSet;
import java.util.Set;
import java.util.TreeSet;

/** The public face of the document, and what LANGUAGE.md rules out and can be seen from outside. */
public final class FaceTest {
    private static final String[] METHODS = {
        "int star 1", "int is 2", "int mark 2", "int row 1", "int lay 3", "int at 2", "int light 2",
        "int tear 1", "int copy 5", "int foot 2", "int footing 1", "int level 0", "int levelOf 1",
        "int mean 1", "int phase 3", "int string 3", "int period 4", "int asWell 5", "int depth 4",
        "int dip 3", "int dipOf 1", "int lows 2", "int low 3", "int turn 6", "int late 6",
        "int bent 6", "int rule 4", "int classOf 1", "int watch 0", "int alarms 0", "long asked 0",
        "int count 1", "int finding 0", "int findings 1", "long digest 0"};

    private static final String[] RULED_OUT = {
        "\\bthrow\\b", "\\btry\\b", "\\bcatch\\b", "\\bsynchronized\\b", "\\bassert\\b", "->", "::",
        "Exact\\b", "\\bpackage\\b", "\\bprotected\\b", "\\bnative\\b", "[^\\x00-\\x7f]"};

    public static void main(String[] args) throws IOException {
        theClass();
        theConstants();
        theMethods();
        theNestedClasses();
        theWords();
        Check.end();
    }

    private static void theClass() {
        Class<?> type = ChangingStars.class;
        Check.dueTrue("public", Modifier.isPublic(type.getModifiers()));
        Check.dueTrue("final", Modifier.isFinal(type.getModifiers()));
        Constructor<?>[] made = type.getDeclaredConstructors();
        Check.due("constructors", made.length, 1);
        Check.dueTrue("its constructor is public", Modifier.isPublic(made[0].getModifiers()));
        Check.due("its parameters", made[0].getParameterCount(), 0);
    }

    private static void theConstants() {
        Check.due("BAD", ChangingStars.BAD, -1);
        Check.due("FULL", ChangingStars.FULL, -2);
        Check.due("FINDING", ChangingStars.FINDING, -3);
        Check.due("STATE", ChangingStars.STATE, -4);
        Check.due("NONE", ChangingStars.NONE, -9);
        Set<String> open = new TreeSet<>();
        for (Field field : ChangingStars.class.getDeclaredFields()) {
            int m = field.getModifiers();
            if (!Modifier.isPrivate(m)) {
                open.add(field.getName());
            }
            Check.dueTrue(field + ": static is final", !Modifier.isStatic(m) || Modifier.isFinal(m));
        }
        Check.dueTrue("open fields: " + open,
                open.equals(Set.of("BAD", "FULL", "FINDING", "STATE", "NONE")));
    }

    private static void theMethods() {
        Set<String> open = new TreeSet<>();
        Set<String> hidden = new HashSet<>();
        for (Method method : ChangingStars.class.getDeclaredMethods()) {
            if (Modifier.isPrivate(method.getModifiers())) {
                hidden.add(method.getName());
                continue;
            }
            open.add(method.getReturnType() + " " + method.getName() + " "
                    + method.getParameterCount());
            Check.dueTrue(method + " is public", Modifier.isPublic(method.getModifiers()));
            Check.dueTrue(method + " is not static", !Modifier.isStatic(method.getModifiers()));
            for (Class<?> parameter : method.getParameterTypes()) {
                Check.dueTrue(method + " takes ints", parameter == int.class);
            }
        }
        Check.dueTrue("open methods: " + open, open.equals(new TreeSet<>(Arrays.asList(METHODS))));
        for (String told : METHODS) {
            Check.dueTrue(told + " has no namesake", !hidden.contains(told.split(" ")[1]));
        }
    }

    private static void theNestedClasses() {
        Class<?>[] nested = ChangingStars.class.getDeclaredClasses();
        Check.dueTrue("some twelve classes", nested.length <= 12);
        for (Class<?> type : nested) {
            int m = type.getModifiers();
            Check.dueTrue(type + " is static", Modifier.isStatic(m));
            Check.dueTrue(type + " is not open", !Modifier.isPublic(m) && !Modifier.isProtected(m));
            long fields = Arrays.stream(type.getDeclaredFields())
                    .filter(field -> !Modifier.isStatic(field.getModifiers())).count();
            Check.dueTrue(type + " has some twenty fields", fields <= 20);
        }
    }

    private static void theWords() throws IOException {
        String source = Files.readString(Path.of("src/main/java/ChangingStars.java"));
        String code = source.replaceAll("(?s)/\\*.*?\\*/", "").replaceAll("//[^\n]*", "");
        for (String word : RULED_OUT) {
            Check.dueTrue("without " + word, !code.matches("(?s).*" + word + ".*"));
        }
    }
}
