/** KEPT: none, one, two; all but THE TEXT comes back, whatever was done meanwhile. */
public final class KeptEdgesTest {
    private static final int NO = -2, FULL = -3, NONE = -4;

    public static void main(String[] args) {
        atMostTwo();
        lastFirst();
        allComesBack();
        allComesBackFromTheFirst();
        keepChangesNothingElse();
        keptIsNotTheChip();
        textIsNotKept();
        otherwise();
        otherwiseAll();
        Due.end();
    }

    private static void atMostTwo() {
        Due.by("KEPT: 2 at most; keep: how many. FULL");
        FlashLanes x = new FlashLanes();
        Due.is("count(11)", x.count(11), 0);
        Due.is("back, none", x.back(), NO);
        Due.is("unlike, none", x.unlike(), NO);
        Due.is("keep", x.keep(), 1);
        Due.is("count(11)", x.count(11), 1);
        Due.is("keep", x.keep(), 2);
        Due.is("count(11)", x.count(11), 2);
        Due.is("keep, the third", x.keep(), FULL);
        Due.is("count(11)", x.count(11), 2);
        Due.by("it is KEPT no more then: how many are left. NO");
        Due.is("back", x.back(), 1);
        Due.is("count(11)", x.count(11), 1);
        Due.is("keep again", x.keep(), 2);
        Due.is("keep, the third", x.keep(), FULL);
        Due.is("back", x.back(), 1);
        Due.is("back", x.back(), 0);
        Due.is("count(11)", x.count(11), 0);
        Due.is("back, none left", x.back(), NO);
        Due.is("unlike, none left", x.unlike(), NO);
        Due.is("keep", x.keep(), 1);
    }

    private static void lastFirst() {
        Due.by("As KEPT last");
        FlashLanes x = new FlashLanes();
        Due.program(x, 0, 15, 1);
        x.keep();
        Due.program(x, 0, 7, 1);
        x.keep();
        Due.program(x, 0, 3, 1);
        Due.is("keep, FULL", x.keep(), FULL);
        Due.program(x, 0, 1, 1);
        x.back();
        Due.is("the second", x.at(0), 7);
        x.keep();
        Due.program(x, 0, 0, 1);
        x.back();
        Due.is("the second, kept again", x.at(0), 7);
        x.back();
        Due.is("the first", x.at(0), 15);
        Due.is("none", x.back(), NO);
        Due.is("the first still", x.at(0), 15);
    }

    /** Whatever can be made otherwise by calls is made so. */
    private static void doMuch(FlashLanes x) {
        x.put(2);
        x.put(3);
        x.put(4);
        x.release();
        x.tick(99);
        x.tick(99);
        x.order(122, 0, 0);
        x.tick(99);
        x.order(102, 0, 0);
        x.order(153, 0, 0);
        Due.level(x, 0);
        x.send(57, 40, 0, 0);
        x.send(54, 0, 0, 0);
        x.order(49, 1, 1);
        Due.program(x, 13, 0, 9);
        Due.erase(x, 9);
        x.order(117, 0, 0);
        Due.level(x, 5);
        Due.enable(x);
        x.select();
        x.put(77);
    }

    private static void allComesBack() {
        Due.by("KEPT is all but THE TEXT: As KEPT last");
        for (Scene scene : Scene.values()) {
            if (scene.kept < 2) {
                Twins.areAlike(scene + ": back", scene.make, x -> {
                    scene.make.accept(x);
                    x.keep();
                    doMuch(x);
                    x.back();
                });
            }
        }
    }

    private static void allComesBackFromTheFirst() {
        Due.by("KEPT is all but THE TEXT: As KEPT last, two of them");
        for (Scene scene : Scene.values()) {
            if (scene.kept == 0) {
                Twins.areAlike(scene + ": back, back", scene.make, x -> {
                    scene.make.accept(x);
                    x.keep();
                    doMuch(x);
                    x.keep();
                    x.release();
                    x.tick(9);
                    x.back();
                    x.back();
                });
            }
        }
    }

    private static void keepChangesNothingElse() {
        Due.by("KEPT: the CHIP goes on as it was");
        for (Scene scene : Scene.values()) {
            if (scene.kept < 2) {
                FlashLanes x = new FlashLanes();
                FlashLanes y = new FlashLanes();
                scene.make.accept(x);
                scene.make.accept(y);
                Due.is(scene + ": keep", x.keep(), scene.kept + 1);
                for (int what = 0; what < 14; what++) {
                    Due.is(scene + ": count(" + what + ")", x.count(what), y.count(what) + (what == 11 ? 1 : 0));
                }
                for (int a = 0; a < scene.all; a++) {
                    Due.is(scene + ": at(" + a + ")", x.at(a), y.at(a));
                }
                Due.is(scene + ": put", x.put(9), y.put(9));
                Due.is(scene + ": release", x.release(), y.release());
                Due.is(scene + ": tick", x.tick(99), y.tick(99));
                Due.is(scene + ": RESET", x.order(153, 0, 0), y.order(153, 0, 0));
                Due.is(scene + ": LANES", x.count(6), y.count(6));
            }
        }
    }

    private static void keptIsNotTheChip() {
        Due.by("KEPT: what is done behind it is not in it");
        FlashLanes x = new FlashLanes();
        x.keep();
        Due.program(x, 0, 0, 8);
        x.back();
        Due.is("nothing in it", x.at(0), 255);
        Due.program(x, 0, 0, 8);
        x.keep();
        Due.erase(x, 0);
        x.tick(5);
        Due.is("erased", x.at(0), 255);
        x.back();
        Due.is("as it was", x.at(0), 0);
        Due.program(x, 8, 0, 8);
        Due.is("back, none", x.back(), NO);
        Due.is("goes on", x.at(8), 0);
    }

    private static void textIsNotKept() {
        Due.by("KEPT is all but THE TEXT");
        FlashLanes x = new FlashLanes();
        Due.text(x, "c27;");
        x.keep();
        x.write('x');
        Due.is("back", x.back(), 0);
        Due.is("count(12)", x.count(12), 5);
        Due.is("fault", x.fault(), 4);
        x.keep();
        x.wipe();
        x.back();
        Due.is("wiped", x.count(12), 0);
        Due.is("fault, wiped", x.fault(), NONE);
        x.keep();
        Due.text(x, "g4,2,2;c15;");
        x.back();
        Due.is("lay of what was told meanwhile", x.lay(), 16);
    }

    private static void otherwise() {
        Due.by("BYTES that are otherwise than as KEPT last");
        FlashLanes x = new FlashLanes();
        x.keep();
        Due.is("none", x.unlike(), 0);
        Due.program(x, 0, 254, 1);
        Due.is("the first BYTE by one", x.unlike(), 1);
        Due.program(x, 255, 127, 1);
        Due.is("the last BYTE, too", x.unlike(), 2);
        Due.program(x, 0, 0, 1);
        Due.is("the first again", x.unlike(), 2);
        Due.program(x, 9, 255, 1);
        Due.is("255 for 255", x.unlike(), 2);
        x.keep();
        Due.is("as KEPT last", x.unlike(), 0);
        Due.program(x, 100, 0, 3);
        Due.is("three", x.unlike(), 3);
        Due.erase(x, 96);
        Due.is("not erased yet", x.unlike(), 3);
        x.tick(5);
        Due.is("erased: as it was", x.unlike(), 0);
        x.back();
        Due.is("as KEPT first", x.unlike(), 2);
        Due.is("asked again", x.unlike(), 2);
    }

    private static void otherwiseAll() {
        Due.by("BYTES that are otherwise: all of them");
        for (int[] shape : new int[][] {{4, 2, 2}, {16, 2, 3}, {8, 4, 8}, {16, 8, 2}}) {
            FlashLanes x = Due.chip(shape[0], shape[1], shape[2], 1, 1);
            int all = x.count(0);
            x.keep();
            for (int a = 0; a < all; a += shape[0]) {
                Due.program(x, a, 1, shape[0]);
            }
            Due.is("all of " + all, x.unlike(), all);
            x.keep();
            Due.enable(x);
            x.order(199, 0, 0);
            x.tick(shape[2]);
            Due.is("all erased of " + all, x.unlike(), all);
            x.back();
            Due.is("all still of " + all, x.unlike(), all);
        }
    }
}
