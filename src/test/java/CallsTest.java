import java.io.IOException;
import java.nio.file.Files;
import java.nio.file.Path;
import java.util.ArrayList;
import java.util.List;
import java.util.Map;
import java.util.TreeMap;
import java.util.regex.Matcher;
import java.util.regex.Pattern;

/** The rules of LANGUAGE.md about calls, loops and new objects, as far as the source shows them. */
public final class CallsTest {
    private static final Pattern CLASS = Pattern.compile("(?: {4}private static|public) final class (\\w+) \\{");
    private static final Pattern METHOD =
            Pattern.compile("( {4}| {8})(?:(?:public|private|static|void|int|boolean|[A-Z]\\w*) )*(\\w+)\\((.*)\\) \\{");
    private static final Pattern CALL = Pattern.compile("(?:(\\w+)\\.|(\\)\\.))?\\b(\\w+)\\(");
    private static final Pattern NAME = Pattern.compile("\\b[A-Z][A-Za-z]*[a-z][A-Za-z]*\\b");
    private static final List<String> NO_CALLS = List.of("if", "for", "while", "switch", "return");
    /** The fields by which one class calls another. */
    private static final Map<String, String> HOLDERS = Map.of("chip", "Chip", "keptFirst", "Chip", "keptSecond",
            "Chip", "text", "Text", "told", "Shape", "shape", "Shape", "wires", "Wires");

    private final Map<String, List<String>> bodies = new TreeMap<>();
    private final List<String> classes = new ArrayList<>();

    public static void main(String[] args) throws IOException {
        String source = Files.readString(Path.of("src/main/java/FlashLanes.java"));
        String code = source.replaceAll("(?s)/\\*.*?\\*/", "").replaceAll("//[^\n]*", "");
        CallsTest test = new CallsTest();
        test.read(code.split("\n"));
        test.depths();
        test.objectsAreMadeInConstructors();
        test.loopsHaveBounds();
        test.namesAreOwn(code);
        Due.end();
    }

    private void read(String[] lines) {
        String owner = "";
        String method = null;
        String end = "";
        for (String line : lines) {
            Matcher c = CLASS.matcher(line);
            Matcher m = METHOD.matcher(line);
            if (c.matches()) {
                owner = c.group(1);
                classes.add(owner);
            } else if (method == null && m.matches()) {
                method = owner + "." + m.group(2);
                end = m.group(1) + "}";
                Due.is("a name twice: " + method, bodies.containsKey(method) ? 1 : 0, 0);
                Due.is("at most seven parameters: " + method, Math.max(m.group(3).split(",").length, 7), 7);
                bodies.put(method, new ArrayList<>());
            } else if (method != null && line.equals(end)) {
                method = null;
            } else if (method != null) {
                bodies.get(method).add(line);
            }
            if (line.equals("    }")) {
                owner = "FlashLanes";
            }
        }
        Due.is("the methods are found", bodies.containsKey("FlashLanes.send") ? 1 : 0, 1);
    }

    private void depths() {
        int most = 0;
        for (String method : bodies.keySet()) {
            most = Math.max(most, depth(method, 1));
        }
        System.out.println("calls go " + most + " deep");
        Due.is("calls go at most eight deep", Math.max(most, 8), 8);
    }

    /** A recursion is stopped at twenty, which is too deep anyway. */
    private int depth(String method, int open) {
        int most = open;
        if (open >= 20) {
            return most;
        }
        for (String line : bodies.get(method)) {
            Matcher m = CALL.matcher(line);
            while (m.find()) {
                if (!NO_CALLS.contains(m.group(3))) {
                    for (String called : targets(method, m)) {
                        most = Math.max(most, depth(called, open + 1));
                    }
                }
            }
        }
        return most;
    }

    private List<String> targets(String caller, Matcher call) {
        String own = caller.substring(0, caller.indexOf('.'));
        String name = call.group(3);
        List<String> found = new ArrayList<>();
        if (call.group(1) != null) {
            found.add(HOLDERS.getOrDefault(call.group(1), own) + "." + name);
        } else if (call.group(2) != null) {
            // what was answered by a call may be of any class
            classes.forEach(c -> found.add(c + "." + name));
            found.removeIf(target -> !bodies.containsKey(target));
        } else if (classes.contains(name)) {
            found.add(name + "." + name);
        } else {
            found.add((bodies.containsKey(own + "." + name) ? own : "FlashLanes") + "." + name);
        }
        for (String target : found) {
            Due.is("called from " + caller + " and known: " + target, bodies.containsKey(target) ? 1 : 0, 1);
        }
        found.removeIf(target -> !bodies.containsKey(target));
        return found;
    }

    /** All calls of a run live in one room, so no call makes anything. */
    private void objectsAreMadeInConstructors() {
        for (Map.Entry<String, List<String>> method : bodies.entrySet()) {
            String[] name = method.getKey().split("\\.");
            for (String line : method.getValue()) {
                boolean makes = line.matches(".*\\bnew\\b.*");
                Due.is("makes an object: " + method.getKey(), makes && !name[0].equals(name[1]) ? 1 : 0, 0);
            }
        }
    }

    private void loopsHaveBounds() {
        Pattern loop = Pattern.compile("\\s*for \\(int (\\w+) = 0; \\1 < [^;]+; \\1\\+\\+\\) \\{");
        for (Map.Entry<String, List<String>> method : bodies.entrySet()) {
            for (String line : method.getValue()) {
                boolean loops = line.matches(".*\\b(for|while|do)\\b.*");
                Due.is("a loop without a counter: " + method.getKey(), loops && !loop.matcher(line).matches() ? 1 : 0, 0);
            }
        }
    }

    private void namesAreOwn(String code) {
        Matcher m = NAME.matcher(code);
        while (m.find()) {
            Due.is("no class of its own: " + m.group(), classes.contains(m.group()) ? 1 : 0, 1);
        }
    }
}
