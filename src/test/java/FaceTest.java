import java.io.IOException;
import java.lang.reflect.Constructor;
import java.lang.reflect.Field;
import java.lang.reflect.Method;
import java.lang.reflect.Modifier;
import java.nio.charset.StandardCharsets;
import java.nio.file.Files;
import java.nio.file.Path;
import java.util.Arrays;
import java.util.List;
import java.util.Set;
import java.util.TreeSet;

/** The face of the class, and the rules of the language that can be seen from the class and its text. */
public final class FaceTest {
    private static final Checks CHECKS = new Checks();
    private static final String[] METHODS = {
        "int append(int,int,int,int,int)", "int load(int) IllegalArgumentException", "int errorOffset()", "int numberCount()",
        "int colourCount()", "int ruleCount()", "int solutions(int) IndexOutOfBoundsException",
        "int colour(int) IndexOutOfBoundsException", "boolean isFixed(int) IndexOutOfBoundsException",
        "int count(int) IndexOutOfBoundsException", "int conflicts()", "int totalWeight()",
        "int conflict(int,int) NoSuchElementException IllegalArgumentException",
        "int conflictsOf(int) IndexOutOfBoundsException", "int allowed(int) IndexOutOfBoundsException",
        "int canExtend(int,int) IndexOutOfBoundsException IllegalArgumentException",
        "int longest(int) IllegalArgumentException", "int bestGain()",
        "int setColour(int,int) IndexOutOfBoundsException IllegalStateException",
        "boolean setFixed(int,boolean) IndexOutOfBoundsException IllegalStateException",
        "int swapColours(int,int) IndexOutOfBoundsException",
        "int extend(int,int) IndexOutOfBoundsException IllegalArgumentException",
        "int repair(int) IllegalArgumentException", "int undo()", "long checksum()"
    };
    private static final String[] CONSTANTS = {"OUT_OF_RANGE", "SYNTAX_ERROR", "TOO_DEEP", "TOO_MANY"};
    private static final String[] NOT_IN_THE_TEXT = {
        "->", "::", "Exact(", "synchronized", "assert ", "finally", "catch", "System.exit", "System.out", "nanoTime", "currentTimeMillis",
        "Random", "Thread", "hashCode", "toString", "equals(", "package ", "java.io", "java.nio", "\t"
    };

    public static void main(String[] args) throws IOException {
        members();
        for (Class<?> inside : SumColouring.class.getDeclaredClasses()) {
            nested(inside);
        }
        CHECKS.holds("at most twelve classes", SumColouring.class.getDeclaredClasses().length < 12);
        text();
        CHECKS.finish();
    }

    private static String told(Method m) {
        StringBuilder line = new StringBuilder(m.getReturnType().getSimpleName()).append(' ').append(m.getName()).append('(');
        for (int i = 0; i < m.getParameterCount(); i++) {
            line.append(i > 0 ? "," : "").append(m.getParameterTypes()[i].getSimpleName());
        }
        line.append(')');
        for (Class<?> e : m.getExceptionTypes()) {
            line.append(' ').append(e.getSimpleName());
        }
        return line.toString();
    }

    private static void members() {
        Class<?> c = SumColouring.class;
        CHECKS.holds("public and final", Modifier.isPublic(c.getModifiers()) && Modifier.isFinal(c.getModifiers()));
        Constructor<?>[] made = c.getDeclaredConstructors();
        CHECKS.holds("one public constructor", made.length == 1 && Modifier.isPublic(made[0].getModifiers()) && made[0].getParameterCount() == 0);
        Set<String> open = new TreeSet<>();
        Set<String> openNames = new TreeSet<>();
        for (Method m : c.getDeclaredMethods()) {
            if (!Modifier.isPrivate(m.getModifiers())) {
                CHECKS.holds(m.getName() + " is public and no more", m.getModifiers() == Modifier.PUBLIC);
                open.add(told(m));
                openNames.add(m.getName());
            }
        }
        CHECKS.due("the methods", open.toString(), new TreeSet<>(Arrays.asList(METHODS)).toString());
        for (Method m : c.getDeclaredMethods()) {
            CHECKS.holds(m.getName() + " is not public and private", !Modifier.isPrivate(m.getModifiers()) || !openNames.contains(m.getName()));
        }
        Set<String> constants = new TreeSet<>();
        for (Field f : c.getDeclaredFields()) {
            if (!Modifier.isPrivate(f.getModifiers())) {
                constants.add(f.getName());
                CHECKS.holds(f.getName() + " is an int constant", f.getType() == int.class
                    && f.getModifiers() == (Modifier.PUBLIC | Modifier.STATIC | Modifier.FINAL));
            }
        }
        CHECKS.due("the constants", constants.toString(), Arrays.toString(CONSTANTS));
        fields(c);
    }

    private static void fields(Class<?> c) {
        int own = 0;
        for (Field f : c.getDeclaredFields()) {
            if (Modifier.isStatic(f.getModifiers())) {
                CHECKS.holds(c.getSimpleName() + "." + f.getName() + " is final", Modifier.isFinal(f.getModifiers()));
            } else {
                own++;
            }
        }
        CHECKS.holds(c.getSimpleName() + " has at most 20 fields", own <= 20);
    }

    private static void nested(Class<?> c) {
        CHECKS.holds(c.getSimpleName() + " is private and static",
            Modifier.isPrivate(c.getModifiers()) && Modifier.isStatic(c.getModifiers()));
        fields(c);
        for (Method m : c.getDeclaredMethods()) {
            CHECKS.holds(m.getName() + " has at most 7 parameters", m.getParameterCount() <= 7);
        }
        CHECKS.holds(c.getSimpleName() + " holds no classes", c.getDeclaredClasses().length == 0);
    }

    private static void text() throws IOException {
        List<String> lines = Files.readAllLines(Path.of("src/main/java/SumColouring.java"), StandardCharsets.US_ASCII);
        for (int i = 0; i < lines.size(); i++) {
            String line = lines.get(i);
            for (String word : NOT_IN_THE_TEXT) {
                CHECKS.holds("line " + (i + 1) + " without " + word, !line.contains(word));
            }
            CHECKS.holds("line " + (i + 1) + " imports what is listed", !line.startsWith("import ")
                || line.equals("import java.util.Arrays;") || line.equals("import java.util.NoSuchElementException;"));
        }
    }
}
