import java.util.function.Consumer;

/** States of an object, each brought about by calls on a new one. */
enum Scene {
    NEW("", x -> {
    }),
    SMALL("small layable", x -> small(x)),
    NONE_PUT("selected", x -> x.select()),
    PROGRAM_HALF_PUT("selected", x -> {
        Due.enable(x);
        puts(x, 2, 6, 1, 4, 2);
    }),
    READ_HALF_PUT("selected small layable", x -> {
        small(x);
        Due.program(x, 14, 7, 4);
        puts(x, 3, 15, 0);
    }),
    READY_HALF_PUT("selected", x -> {
        x.order(49, 2, 1);
        puts(x, 102);
    }),
    BUSY_PROGRAM("busy", x -> {
        Due.enable(x);
        x.send(2, 6, 240, 4);
        x.tick(1);
    }),
    BUSY_ERASE("busy", x -> {
        Due.program(x, 32, 7, 3);
        Due.program(x, 63, 7, 1);
        Due.erase(x, 33);
        x.tick(2);
    }),
    BUSY_ALL("busy", x -> {
        Due.program(x, 0, 7, 3);
        Due.program(x, 255, 7, 1);
        Due.enable(x);
        x.order(199, 0, 0);
        x.tick(2);
    }),
    BUSY_AND_SELECTED("selected busy", x -> {
        Due.erase(x, 33);
        puts(x, 117);
    }),
    SUSPENDED("", x -> {
        Due.program(x, 40, 7, 3);
        Due.erase(x, 33);
        x.tick(2);
        x.order(117, 0, 0);
    }),
    SUSPENDED_WITH_ERROR("", x -> {
        Due.erase(x, 255);
        x.order(117, 0, 0);
        Due.erase(x, 0);
    }),
    SUSPENDED_AND_BUSY("busy", x -> {
        Due.erase(x, 33);
        x.order(117, 0, 0);
        Due.enable(x);
        x.send(2, 70, 0, 2);
    }),
    SUSPENDED_AND_LOCKED("enabled", x -> {
        Due.program(x, 40, 7, 3);
        Due.erase(x, 33);
        x.tick(3);
        x.order(117, 0, 0);
        x.send(54, 40, 0, 0);
        x.send(54, 100, 0, 0);
        Due.enable(x);
    }),
    RESUMED_AND_ENABLED("busy enabled", x -> {
        Due.level(x, 1);
        Due.erase(x, 33);
        x.order(117, 0, 0);
        Due.enable(x);
        x.order(122, 0, 0);
    }),
    RESUMED_WITH_ERROR("busy", x -> {
        x.send(54, 100, 0, 0);
        Due.program(x, 40, 7, 3);
        Due.erase(x, 33);
        x.order(117, 0, 0);
        Due.erase(x, 0);
        x.order(49, 1, 1);
        x.order(122, 0, 0);
    }),
    ERROR("", x -> {
        Due.level(x, 2);
        x.send(54, 40, 0, 0);
        x.send(54, 70, 0, 0);
        x.order(49, 2, 1);
        Due.erase(x, 255);
    }),
    ALL_SET("enabled", x -> {
        x.order(49, 2, 1);
        Due.level(x, 2);
        x.send(54, 40, 0, 0);
        Due.enable(x);
    }),
    ALL_LOCKED("enabled", x -> {
        for (int s = 0; s < 8; s++) {
            x.send(54, s * 32, 0, 0);
        }
        Due.enable(x);
    }),
    ENDS_PROGRAMMED("", x -> {
        Due.program(x, 0, 0, 1);
        Due.program(x, 255, 0, 1);
    }),
    READIED("", x -> {
        x.order(49, 3, 1);
        x.order(102, 0, 0);
    }),
    KEPT_ONE("kept1", x -> {
        Due.program(x, 0, 7, 3);
        x.keep();
        Due.program(x, 0, 4, 3);
    }),
    KEPT_TWO("kept2", x -> {
        x.keep();
        Due.program(x, 0, 7, 3);
        x.order(49, 1, 1);
        x.keep();
        Due.program(x, 1, 4, 3);
    }),
    KEPT_BUSY_SELECTED("kept2 busy selected", x -> {
        Due.erase(x, 0);
        x.keep();
        x.tick(1);
        puts(x, 5, 0);
        x.keep();
        x.tick(1);
    }),
    TEXT_FULL("full small", x -> {
        small(x);
        x.wipe();
        for (int i = 0; i < 40; i++) {
            write(x, "t1,1;");
        }
    }),
    TEXT_CUT("", x -> write(x, "g4,2,2;t1,")),
    TEXT_WITH_CHECK("layable", x -> write(x, "g4,2,2;c15;")),
    TEXT_BEHIND_CHECK("", x -> write(x, "c27;t1,1;"));

    final Consumer<FlashLanes> make;
    final boolean selected;
    final boolean busy;
    final boolean enabled;
    final boolean full;
    final boolean layable;
    final int kept;
    final int all;
    final int sectors;

    Scene(String marks, Consumer<FlashLanes> make) {
        this.make = make;
        selected = marks.contains("selected");
        busy = marks.contains("busy");
        enabled = marks.contains("enabled");
        full = marks.contains("full");
        layable = marks.contains("layable");
        kept = marks.contains("kept1") ? 1 : marks.contains("kept2") ? 2 : 0;
        all = marks.contains("small") ? 16 : 256;
        sectors = marks.contains("small") ? 2 : 8;
    }

    private static void small(FlashLanes x) {
        write(x, "g4,2,2;c15;");
        x.lay();
    }

    private static void write(FlashLanes x, String text) {
        for (int i = 0; i < text.length(); i++) {
            x.write(text.charAt(i));
        }
    }

    private static void puts(FlashLanes x, int... bytes) {
        x.select();
        for (int v : bytes) {
            x.put(v);
        }
    }
}
