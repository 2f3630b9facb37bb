import java.io.IOException;
import java.lang.reflect.Constructor;
import java.lang.reflect.Field;
import java.lang.reflect.Method;
import java.lang.reflect.Modifier;
import java.nio.file.Files;
import java.nio.file.Path;
import java.util.ArrayList;
import java.util.Arrays;
import java.util.List;
import java.util.TreeSet;
import java.util.regex.Matcher;
import java.util.regex.Pattern;

/** The public face of the document, and the rules of LANGUAGE.md that can be seen from outside. */
public final class FormTest {
    private static final String[] FACE = {"write int", "wipe", "fault", "lay", "select", "put int", "release",
        "send int int int int", "order int int int", "tick int", "at int", "sector int int", "table int", "keep",
        "back", "unlike", "count int"};
    private static final String[] CONSTANTS = {"BAD", "NO", "FULL", "NONE"};
    private static final String[] FORBIDDEN = {"\\bthrow\\b", "\\btry\\b", "\\bcatch\\b", "\\bsynchronized\\b",
        "\\bassert\\b", "->", "::", "\\bimport\\b", "\\bpackage\\b", "\\bprotected\\b", "\\bhashCode\\b",
        "\\btoString\\b", "Exact\\b", "\\bnative\\b", "\\bvolatile\\b", "\\bfinalize\\b", "\\bthis\\b"};

    public static void main(String[] args) throws IOException {
        methods();
        constants();
        classesInside();
        source(Files.readString(Path.of("src/main/java/FlashLanes.java")));
        Due.end();
    }

    private static void methods() {
        TreeSet<String> found = new TreeSet<>();
        TreeSet<String> hidden = new TreeSet<>();
        for (Method m : FlashLanes.class.getDeclaredMethods()) {
            if (Modifier.isPrivate(m.getModifiers())) {
                hidden.add(m.getName());
                continue;
            }
            StringBuilder row = new StringBuilder(m.getName());
            for (Class<?> c : m.getParameterTypes()) row.append(' ').append(c.getName());
            found.add(row.toString());
            Due.is("public, not static: " + row, m.getModifiers(), Modifier.PUBLIC);
            Due.is("answers an int: " + row, m.getReturnType() == int.class ? 1 : 0, 1);
        }
        Due.is("the methods of the face: " + found, found.equals(new TreeSet<>(Arrays.asList(FACE))) ? 1 : 0, 1);
        for (String row : FACE) {
            Due.is("a private method has a public one's name", hidden.contains(row.split(" ")[0]) ? 1 : 0, 0);
        }
        Constructor<?>[] constructors = FlashLanes.class.getDeclaredConstructors();
        Due.is("constructors", constructors.length, 1);
        Due.is("its parameters", constructors[0].getParameterCount(), 0);
        Due.is("it is public", constructors[0].getModifiers(), Modifier.PUBLIC);
        Due.is("the class", FlashLanes.class.getModifiers(), Modifier.PUBLIC | Modifier.FINAL);
    }

    private static void constants() {
        List<String> names = new ArrayList<>();
        for (Field f : FlashLanes.class.getDeclaredFields()) {
            if (!Modifier.isPrivate(f.getModifiers())) {
                names.add(f.getName());
                Due.is(f.getName(), f.getModifiers(), Modifier.PUBLIC | Modifier.STATIC | Modifier.FINAL);
            }
        }
        Due.is("the constants: " + names, names.equals(Arrays.asList(CONSTANTS)) ? 1 : 0, 1);
        Due.is("BAD", FlashLanes.BAD, -1);
        Due.is("NO", FlashLanes.NO, -2);
        Due.is("FULL", FlashLanes.FULL, -3);
        Due.is("NONE", FlashLanes.NONE, -4);
    }

    private static void classesInside() {
        Class<?>[] inside = FlashLanes.class.getDeclaredClasses();
        Due.is("at most twelve classes", Math.max(inside.length + 1, 12), 12);
        for (Class<?> c : inside) {
            Due.is("static: " + c, c.getModifiers() & Modifier.STATIC, Modifier.STATIC);
            Due.is("not public or protected: " + c, c.getModifiers() & (Modifier.PUBLIC | Modifier.PROTECTED), 0);
            int fields = 0;
            for (Field f : c.getDeclaredFields()) {
                fields += Modifier.isStatic(f.getModifiers()) ? 0 : 1;
            }
            Due.is("at most twenty fields: " + c, Math.max(fields, 20), 20);
            staticsAreConstants(c);
            for (Method m : c.getDeclaredMethods()) {
                boolean hidden = Modifier.isPrivate(m.getModifiers());
                for (String row : FACE) {
                    Due.is("a private method has a public one's name: " + m,
                            hidden && m.getName().equals(row.split(" ")[0]) ? 1 : 0, 0);
                }
            }
        }
        staticsAreConstants(FlashLanes.class);
    }

    private static void staticsAreConstants(Class<?> c) {
        for (Field f : c.getDeclaredFields()) {
            if (Modifier.isStatic(f.getModifiers())) {
                Due.is("a static field is final: " + f, f.getModifiers() & Modifier.FINAL, Modifier.FINAL);
                Due.is("a static field is an int: " + f, f.getType() == int.class ? 1 : 0, 1);
            }
        }
    }

    private static void source(String source) {
        String code = source.replaceAll("(?s)/\\*.*?\\*/", "").replaceAll("//[^\n]*", "");
        for (String word : FORBIDDEN) {
            Matcher m = Pattern.compile(word).matcher(code);
            Due.is("in the source: " + word, m.find() ? 1 : 0, 0);
        }
        methodsAreShort(source.split("\n"));
        for (int i = 0; i < source.length(); i++) {
            if (source.charAt(i) > 126) Due.is("a sign beyond ASCII at " + i, source.charAt(i), 0);
        }
    }

    /** A method begins with a line that ends in ") {" and ends with a brace at the same depth. */
    private static void methodsAreShort(String[] lines) {
        Pattern opening = Pattern.compile("( {4}| {8})\\S.*\\) \\{");
        int start = -1;
        String end = "";
        for (int i = 0; i < lines.length; i++) {
            Matcher m = opening.matcher(lines[i]);
            if (start < 0 && m.matches()) {
                start = i;
                end = m.group(1) + "}";
            } else if (start >= 0 && lines[i].equals(end)) {
                Due.is("lines of the method at line " + (start + 1) + " over sixty",
                        Math.max(i - start + 1, 60), 60);
                start = -1;
            }
        }
    }
}
