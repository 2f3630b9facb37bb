import java.util.LinkedHashMap;
import java.util.Map;
import java.util.function.Predicate;

/** Each command and each call, in every scene: what it is not told to change stays as it is. */
public final class NothingElseTest {
    private static final int[] COMMANDS = {3, 11, 90, 5, 6, 4, 1, 2, 32, 199, 117, 122, 49, 54, 57, 102, 153, 0, 255};
    private static final int[] HOW_MANY = {0, 1, 2, 3, 20};
    private static final int[] FIRSTS = {0, 3, 12, 33, 40, 70, 100, 255};

    private final Scene scene;
    /** Seen on an object of its own: two looks at one object would be more than its 512 calls. */
    private final Map<String, Integer> was;

    private NothingElseTest(Scene scene) {
        this.scene = scene;
        was = look(in());
    }

    public static void main(String[] args) {
        for (Scene scene : Scene.values()) {
            new NothingElseTest(scene).all();
        }
        Due.end();
    }

    private void all() {
        if (scene.selected) {
            puts();
        } else {
            commands();
        }
        ticks();
        texts();
        kept();
    }

    private FlashLanes in() {
        FlashLanes x = new FlashLanes();
        scene.make.accept(x);
        return x;
    }

    private void commands() {
        Due.by("When RELEASED, what the COMMAND does is done");
        for (int command : COMMANDS) {
            for (int n : HOW_MANY) {
                for (int first : n == 0 ? new int[] {0} : FIRSTS) {
                    command(command, first, n);
                }
            }
        }
    }

    private void command(int command, int first, int n) {
        FlashLanes x = in();
        x.order(command, first, n);
        String what = "order(" + command + ", " + first + ", " + n + ")";
        Predicate<String> may = scene.busy ? busyMay(command, n) : idleMay(command, first, n);
        stays(what, x, may.or(name -> name.equals("CLOCKS")));
        Due.is(scene + ": " + what + ", CLOCKS", x.count(8), was.get("CLOCKS") + (1 + n) * 8 / was.get("LANES"));
    }

    private static Predicate<String> busyMay(int command, int n) {
        return command == 117 && n == 0 ? any("BUSY", "SUSPENDED") : any();
    }

    private Predicate<String> idleMay(int command, int first, int n) {
        int page = was.get("P");
        int sector = page * was.get("S");
        int a = first % was.get("ALL");
        String of = "sector " + a / sector + " ";
        // behind the command's number: 00 no byte, 01 one, 02 more
        switch (command * 100 + Math.min(n, 2)) {
            case 600:
                return any("ENABLED", "ERROR");
            case 400:
                return any("ENABLED");
            case 101:
                return any("ENABLED", "ERROR", "LEVEL").or(name -> name.endsWith(" GUARDED"));
            case 202:
                return any("ENABLED", "ERROR", "BUSY", "left", "begun", of + "blank", of + "sum", "unlike")
                        .or(name -> isAtIn(name, a / page * page, page));
            case 3201:
                return any("ENABLED", "ERROR", "BUSY", "left", "begun", of + "ERASED");
            case 19900:
                return any("ENABLED", "ERROR", "BUSY", "left", "begun").or(name -> name.endsWith(" ERASED"));
            case 12200:
                return any("BUSY", "SUSPENDED");
            case 4901:
                return any("LANES");
            case 5401:
            case 5701:
                return any(of + "LOCKED", of + "GUARDED");
            case 15300:
                return any("LANES", "ENABLED", "ERROR", "SUSPENDED", "left").or(name -> name.endsWith(" ERASED"));
            default:
                return any();
        }
    }

    private void puts() {
        Due.by("Each PUT takes 8 by LANES CLOCKS and answers a BYTE");
        for (int n = 1; n <= 4; n++) {
            FlashLanes x = in();
            for (int v = 0; v < n; v++) {
                x.put(v);
            }
            stays(n + " PUT", x, any("CLOCKS", "puts"));
            Due.is(scene + ": CLOCKS", x.count(8), was.get("CLOCKS") + n * 8 / was.get("LANES"));
            Due.is(scene + ": counted", x.count(10), was.get("puts") + n);
        }
    }

    private void ticks() {
        Due.by("A TICK: BUSY has one less left; at 0 it is done");
        for (int n : new int[] {1, 2, 3, 99}) {
            FlashLanes x = in();
            int sector = was.get("P") * was.get("S");
            x.tick(n);
            Predicate<String> may = name -> false;
            for (int s = 0; s < was.get("N") && scene.busy; s++) {
                int start = s * sector;
                String of = "sector " + s + " ";
                if (was.get(of + "ERASED") == 1 && was.get("SUSPENDED") == 0) {
                    may = may.or(any(of + "ERASED", of + "blank", of + "sum", "unlike"))
                            .or(name -> isAtIn(name, start, sector));
                }
            }
            stays("tick(" + n + ")", x, scene.busy ? may.or(any("BUSY", "left")) : may);
        }
    }

    private void texts() {
        Due.by("A letter comes behind THE TEXT; THE TEXT is empty; FAULT");
        FlashLanes x = in();
        x.write('c');
        x.wipe();
        x.write('g');
        x.fault();
        stays("write, wipe, fault", x, any("letters", "fault"));
    }

    private void kept() {
        Due.by("KEPT is all but THE TEXT");
        FlashLanes x = in();
        x.keep();
        stays("keep", x, any("KEPT", "unlike"));
        if (scene.kept < 2) {
            FlashLanes y = in();
            y.keep();
            y.back();
            stays("keep, back", y, any());
        }
    }

    private void stays(String what, FlashLanes x, Predicate<String> may) {
        Map<String, Integer> now = look(x);
        for (Map.Entry<String, Integer> each : was.entrySet()) {
            if (!may.test(each.getKey())) {
                Due.is(scene + ": " + what + ", " + each.getKey(), now.get(each.getKey()), each.getValue());
            }
        }
    }

    private static Predicate<String> any(String... names) {
        return name -> {
            for (String each : names) {
                if (each.equals(name)) {
                    return true;
                }
            }
            return false;
        };
    }

    private static boolean isAtIn(String name, int start, int length) {
        if (!name.startsWith("at ")) {
            return false;
        }
        int a = Integer.parseInt(name.substring(3));
        return a >= start && a < start + length;
    }

    /** All that can be looked at, by name, STATUS in its parts. */
    private static Map<String, Integer> look(FlashLanes x) {
        Map<String, Integer> seen = new LinkedHashMap<>();
        String[] counts = {"ALL", "P", "S", "N", "T", "E", "LANES", "STATUS", "CLOCKS", "left", "puts", "KEPT",
            "letters", "begun"};
        for (int what = 0; what < counts.length; what++) {
            seen.put(counts[what], x.count(what));
        }
        int status = seen.remove("STATUS");
        seen.put("BUSY", status & 1);
        seen.put("ENABLED", status & 2);
        seen.put("LEVEL", status & 28);
        seen.put("SUSPENDED", status & 64);
        seen.put("ERROR", status & 128);
        for (int a = 0; a < seen.get("ALL"); a++) {
            seen.put("at " + a, x.at(a));
        }
        String[] of = {"blank", "sum", "LOCKED", "GUARDED", "ERASED"};
        for (int s = 0; s < seen.get("N"); s++) {
            for (int what = 0; what < of.length; what++) {
                seen.put("sector " + s + " " + of[what], x.sector(s, what));
            }
        }
        for (int k = 0; k < 8; k++) {
            seen.put("table " + k, x.table(k));
        }
        seen.put("unlike", x.unlike());
        seen.put("fault", x.fault());
        return seen;
    }
}
