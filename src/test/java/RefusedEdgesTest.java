import java.util.function.ToIntFunction;

/**
 * For every call: the last numbers that can be told and the first that cannot, on both sides, and every answer of
 * BAD, NO, NONE and FULL in every scene, by which nothing changes.
 */
public final class RefusedEdgesTest {
    private static final int BAD = -1, NO = -2, FULL = -3, NONE = -4;
    private static final int LEAST = Integer.MIN_VALUE, MOST = Integer.MAX_VALUE;

    public static void main(String[] args) {
        for (Scene scene : Scene.values()) {
            text(scene);
            wires(scene);
            sentNumbers(scene);
            orderedNumbers(scene);
            ticks(scene);
            places(scene);
            kept(scene);
            counts(scene);
        }
        lastNumbers();
        Due.end();
    }

    private static void refused(Scene scene, String call, ToIntFunction<FlashLanes> made, int want) {
        FlashLanes x = new FlashLanes();
        scene.make.accept(x);
        Due.is(scene + ": " + call, made.applyAsInt(x), want);
        Due.is(scene + ": " + call + " again", made.applyAsInt(x), want);
        changesNothing(scene, call, made);
    }

    private static void changesNothing(Scene scene, String call, ToIntFunction<FlashLanes> made) {
        Twins.areAlike(scene + ": " + call, scene.make, x -> {
            scene.make.accept(x);
            made.applyAsInt(x);
        });
    }

    private static void text(Scene scene) {
        Due.by("A letter (32 to 126, as in ASCII) comes behind THE TEXT. BAD");
        for (int letter : new int[] {31, 127, 0, -1, 128, 32 - 256, 32 + 256, 'g' + 65536, LEAST, MOST}) {
            refused(scene, "write(" + letter + ")", x -> x.write(letter), BAD);
        }
        if (scene.full) {
            Due.by("FULL: it has 200");
            refused(scene, "write(32)", x -> x.write(32), FULL);
            refused(scene, "write(126)", x -> x.write(126), FULL);
        }
        Due.by("FAULT. NONE");
        changesNothing(scene, "fault()", x -> x.fault());
        if (!scene.layable) {
            Due.by("LAID is a TEXT without FAULT whose last ITEM is a check (NO else)");
            refused(scene, "lay()", x -> x.lay(), NO);
        }
    }

    private static void wires(Scene scene) {
        Due.by("A BYTE (0 to 255) is PUT. BAD");
        for (int v : new int[] {-1, 256, -256, 65536, LEAST, MOST}) {
            refused(scene, "put(" + v + ")", x -> x.put(v), BAD);
        }
        if (scene.selected) {
            Due.by("SELECTED. NO: it is");
            refused(scene, "select()", x -> x.select(), NO);
            Due.by("send. NO: it is SELECTED already");
            refused(scene, "send(6, 0, 0, 0)", x -> x.send(6, 0, 0, 0), NO);
            refused(scene, "send(255, 255, 255, 40)", x -> x.send(255, 255, 255, 40), NO);
            Due.by("order. BAD; NO");
            refused(scene, "order(6, 0, 0)", x -> x.order(6, 0, 0), NO);
            refused(scene, "order(255, 255, 40)", x -> x.order(255, 255, 40), NO);
        } else {
            Due.by("put. NO: it is not SELECTED");
            refused(scene, "put(0)", x -> x.put(0), NO);
            refused(scene, "put(255)", x -> x.put(255), NO);
            Due.by("RELEASED. NO: it is not SELECTED");
            refused(scene, "release()", x -> x.release(), NO);
        }
    }

    private static void sentNumbers(Scene scene) {
        Due.by("send: n BYTES (0 to 40), all numbers 0 to 255. BAD");
        for (int n : new int[] {-1, 41, 256, LEAST, MOST}) {
            refused(scene, "send(6, 0, 0, " + n + ")", x -> x.send(6, 0, 0, n), BAD);
        }
        for (int v : new int[] {-1, 256, LEAST, MOST}) {
            refused(scene, "send(" + v + ", 0, 0, 0)", x -> x.send(v, 0, 0, 0), BAD);
            refused(scene, "send(54, " + v + ", 0, 0)", x -> x.send(54, v, 0, 0), BAD);
            refused(scene, "send(54, 0, " + v + ", 0)", x -> x.send(54, 0, v, 0), BAD);
            refused(scene, "send(2, 0, " + v + ", 1)", x -> x.send(2, 0, v, 1), BAD);
        }
    }

    private static void orderedNumbers(Scene scene) {
        Due.by("order: n BYTES (0 to 40). BAD");
        for (int n : new int[] {-1, 41, 256, LEAST, MOST}) {
            refused(scene, "order(6, 0, " + n + ")", x -> x.order(6, 0, n), BAD);
        }
        for (int v : new int[] {-1, 256, LEAST, MOST}) {
            refused(scene, "order(" + v + ", 0, 0)", x -> x.order(v, 0, 0), BAD);
            refused(scene, "order(6, " + v + ", 0)", x -> x.order(6, v, 0), BAD);
            refused(scene, "order(49, " + v + ", 1)", x -> x.order(49, v, 1), BAD);
        }
    }

    private static void ticks(Scene scene) {
        Due.by("n TICKS (1 to 99). BAD");
        for (int n : new int[] {0, 100, -1, 101, LEAST, MOST}) {
            refused(scene, "tick(" + n + ")", x -> x.tick(n), BAD);
        }
    }

    private static void places(Scene scene) {
        Due.by("The BYTE at a place (0 to ALL less 1). BAD");
        for (int a : new int[] {-1, scene.all, scene.all + 1, 256, -256, LEAST, MOST}) {
            refused(scene, "at(" + a + ")", x -> x.at(a), BAD);
        }
        changesNothing(scene, "at(0)", x -> x.at(0));
        changesNothing(scene, "at(ALL less 1)", x -> x.at(scene.all - 1));
        Due.by("Of a SECTOR: what 0 to 4. BAD");
        for (int what = 0; what <= 4; what++) {
            int w = what;
            for (int s : new int[] {-1, scene.sectors, scene.sectors + 1, 8, LEAST, MOST}) {
                refused(scene, "sector(" + s + ", " + w + ")", x -> x.sector(s, w), BAD);
            }
            changesNothing(scene, "sector(0, " + w + ")", x -> x.sector(0, w));
            changesNothing(scene, "sector(N less 1, " + w + ")", x -> x.sector(scene.sectors - 1, w));
        }
        for (int what : new int[] {-1, 5, LEAST, MOST}) {
            refused(scene, "sector(0, " + what + ")", x -> x.sector(0, what), BAD);
            refused(scene, "sector(-1, " + what + ")", x -> x.sector(-1, what), BAD);
        }
        Due.by("A BYTE of TABLE (0 to 7). BAD");
        for (int k : new int[] {-1, 8, 256, LEAST, MOST}) {
            refused(scene, "table(" + k + ")", x -> x.table(k), BAD);
        }
        changesNothing(scene, "table(7)", x -> x.table(7));
    }

    private static void kept(Scene scene) {
        if (scene.kept == 2) {
            Due.by("KEPT: how many. FULL (2 at most)");
            refused(scene, "keep()", x -> x.keep(), FULL);
        }
        if (scene.kept == 0) {
            Due.by("As KEPT last. NO");
            refused(scene, "back()", x -> x.back(), NO);
            Due.by("BYTES that are otherwise than as KEPT last. NO: none is");
            refused(scene, "unlike()", x -> x.unlike(), NO);
        } else {
            Due.by("BYTES that are otherwise than as KEPT last");
            changesNothing(scene, "unlike()", x -> x.unlike());
        }
    }

    private static void counts(Scene scene) {
        Due.by("How many: 0 ALL .. 13 begun. BAD");
        for (int what : new int[] {-1, 14, 256, LEAST, MOST}) {
            refused(scene, "count(" + what + ")", x -> x.count(what), BAD);
        }
        for (int what = 0; what <= 13; what++) {
            int w = what;
            changesNothing(scene, "count(" + w + ")", x -> x.count(w));
        }
    }

    /** The other side of each bound: the last number that can be told is taken. */
    private static void lastNumbers() {
        FlashLanes x = new FlashLanes();
        Due.by("A letter (32 to 126): how long it is");
        Due.is("write(32)", x.write(32), 1);
        Due.is("write(126)", x.write(126), 2);
        Due.by("A BYTE (0 to 255) is PUT");
        x.select();
        Due.is("put(0)", x.put(0), 255);
        Due.is("put(255)", x.put(255), 255);
        x.release();
        Due.by("n BYTES (0 to 40), all numbers 0 to 255");
        Due.is("send(0, 0, 0, 0)", x.send(0, 0, 0, 0), 255);
        Due.is("clocks of 4 PUTS", x.count(8), 32);
        Due.is("send(255, 255, 255, 40)", x.send(255, 255, 255, 40), 255);
        Due.is("clocks of 42 more", x.count(8), 32 + 42 * 8);
        Due.is("order(0, 0, 0)", x.order(0, 0, 0), 255);
        Due.is("order(255, 255, 40)", x.order(255, 255, 40), 255);
        Due.is("clocks of 42 more", x.count(8), 32 + 84 * 8);
        Due.by("n TICKS (1 to 99)");
        Due.is("tick(1)", x.tick(1), 0);
        Due.is("tick(99)", x.tick(99), 0);
        Due.by("(0 to ALL less 1)");
        Due.is("at(0)", x.at(0), 255);
        Due.is("at(255)", x.at(255), 255);
        Due.by("Of a SECTOR");
        Due.is("sector(0, 0)", x.sector(0, 0), 32);
        Due.is("sector(7, 4)", x.sector(7, 4), 0);
        Due.by("A BYTE of TABLE (0 to 7)");
        Due.is("table(0)", x.table(0), 83);
        Due.is("table(7)", x.table(7), 180);
        Due.by("How many: 0 to 13");
        Due.is("count(0)", x.count(0), 256);
        Due.is("count(13)", x.count(13), 0);
        Due.by("KEPT: 2 at most");
        Due.is("keep()", x.keep(), 1);
        Due.is("keep()", x.keep(), 2);
        Due.is("back()", x.back(), 1);
        Due.is("back()", x.back(), 0);
        Due.by("FAULT. NONE");
        Due.is("wipe()", x.wipe(), 2);
        Due.is("fault()", x.fault(), NONE);
    }
}
