import java.io.IOException;
import java.lang.reflect.Constructor;
import java.lang.reflect.Field;
import java.lang.reflect.Method;
import java.lang.reflect.Modifier;
import java.nio.file.Files;
import java.nio.file.Path;
import java.util.Set;
import java.util.TreeSet;

/** The public face of the document, and what of ../shared/LANGUAGE.md can be seen from outside. */
public final class FaceTest {
    private static final String[] METHODS = {
        "int open(int)", "int put(int,int,int,int,int)", "int get(int,int,int,int)", "int feed(int,int,int,int,int)",
        "int cut(int)", "int write(int)", "int commit(int)", "int leave(int)", "int undo(int)", "int model(int,int,int)",
        "int log(int)", "int crash(int)", "int reopen()", "int told(int)", "int sea(int)", "long rest(int)",
        "int water(int,int)", "int liquid(int)", "long arm(int)", "long along(int,int)", "int rules(int)", "int verdict(int)",
        "int steps(int)", "long let(int,int)", "int nest(int)", "int piece(int,int)", "int sheet(int,int)", "int bars()",
        "int rod(int)", "int lead()", "int way(int,int)", "int step(int,int)", "int plan()", "int task(int,int)"};
    private static final String[] CONSTANTS = {"int BAD", "int NO", "int DOWN", "int FULL", "long NONE"};
    private static final String FORBIDDEN = "\\b(throws?|try|catch|synchronized|assert|native|double|float|package|while)\\b"
            + "|Exact\\b|->|::|System\\.(?!arraycopy)|static \\{";

    public static void main(String[] args) throws IOException {
        face();
        insides();
        source();
        Check.end();
    }

    private static String told(Method m) {
        StringBuilder s = new StringBuilder(m.getReturnType() + " " + m.getName() + "(");
        for (Class<?> type : m.getParameterTypes()) {
            s.append(s.charAt(s.length() - 1) == '(' ? "" : ",").append(type);
        }
        return s.append(")").toString();
    }

    private static void face() {
        Check.due("public and final", ShipYard.class.getModifiers(), Modifier.PUBLIC | Modifier.FINAL);
        Set<String> due = new TreeSet<>(Set.of(METHODS));
        Set<String> names = new TreeSet<>();
        for (Method m : ShipYard.class.getDeclaredMethods()) {
            if (!Modifier.isPrivate(m.getModifiers()) && !m.isSynthetic()) {
                Check.due("is of the face: " + told(m), due.remove(told(m)) ? 1 : 0, 1);
                Check.due("public: " + told(m), m.getModifiers(), Modifier.PUBLIC);
                names.add(m.getName());
            }
        }
        Check.due("missing methods " + due, due.size(), 0);
        for (Class<?> c : ShipYard.class.getDeclaredClasses()) {
            for (Method m : c.getDeclaredMethods()) {
                Check.due("a name of the face: " + c + " " + m, names.contains(m.getName()) ? 1 : 0, 0);
            }
        }
        Set<String> constants = new TreeSet<>(Set.of(CONSTANTS));
        for (Field f : ShipYard.class.getDeclaredFields()) {
            if (!Modifier.isPrivate(f.getModifiers())) {
                Check.due("is of the face: " + f, constants.remove(f.getType() + " " + f.getName()) ? 1 : 0, 1);
                Check.due("constant: " + f, f.getModifiers(), Modifier.PUBLIC | Modifier.STATIC | Modifier.FINAL);
            }
        }
        Check.due("missing constants " + constants, constants.size(), 0);
        Constructor<?>[] made = ShipYard.class.getDeclaredConstructors();
        Check.due("one constructor", made.length, 1);
        Check.due("without parameters", made[0].getParameterCount(), 0);
    }

    private static void insides() {
        Class<?>[] inside = ShipYard.class.getDeclaredClasses();
        Check.due("classes: " + inside.length, inside.length <= 12 ? 1 : 0, 1);
        looked(ShipYard.class);
        for (Class<?> c : inside) {
            Check.due("private, static: " + c, Modifier.isPrivate(c.getModifiers()) && Modifier.isStatic(c.getModifiers())
                    ? 1 : 0, 1);
            looked(c);
        }
    }

    private static void looked(Class<?> c) {
        int fields = 0;
        for (Field f : c.getDeclaredFields()) {
            boolean isStatic = Modifier.isStatic(f.getModifiers());
            fields += isStatic ? 0 : 1;
            Check.due("a static field is final: " + f, isStatic && !Modifier.isFinal(f.getModifiers()) ? 1 : 0, 0);
        }
        Check.due("fields of " + c + ": " + fields, fields <= 20 ? 1 : 0, 1);
        for (Method m : c.getDeclaredMethods()) {
            Check.due("parameters of " + m, m.getParameterCount() <= 7 ? 1 : 0, 1);
        }
    }

    private static void source() throws IOException {
        String text = Files.readString(Path.of("src/main/java/ShipYard.java"));
        java.util.regex.Matcher found = java.util.regex.Pattern.compile(FORBIDDEN)
                .matcher(text.replaceAll("/\\*\\*.*\\*/|//.*", ""));
        boolean has = found.find();
        Check.due("the source has " + (has ? found.group() : "nothing forbidden"), has ? 1 : 0, 0);
        Check.due("imports", text.split("\nimport ").length + (text.startsWith("import java.util.Arrays;") ? 0 : 1), 1);
    }
}
