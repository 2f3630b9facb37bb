import java.util.Arrays;
import java.util.List;

/** SELECTED, PUT, RELEASED: what is answered meanwhile, how many bytes a command wants, reading on and round. */
public final class WireEdgesTest {
    private static final int NO = -2;
    private static final int[] COMMANDS = {3, 11, 90, 5, 6, 4, 1, 2, 32, 199, 117, 122, 49, 54, 57, 102, 153};

    public static void main(String[] args) {
        selectedOrNot();
        clocks();
        clocksGoRound();
        answers255();
        addressModuloAll();
        readRound();
        readIsCutByRelease();
        fastRound();
        tableEnds();
        tableNotModulo();
        statusAtEachPut();
        nothingDoneByReading();
        bytesAsTold();
        bytesAsToldWhileBusy();
        commandsNotTold();
        doneWhenReleased();
        lanes();
        sentBytesGoRound();
        ordersAreSends();
        putsCounted();
        lifeOfPuts();
        Due.end();
    }

    private static void puts(FlashLanes x, int[] bytes, int[] answers) {
        for (int i = 0; i < bytes.length; i++) {
            Due.is("PUT " + i + " of " + Arrays.toString(bytes), x.put(bytes[i]), answers[i]);
        }
    }

    /** Each byte of the chip is made its own place, as far as there is one. */
    private static FlashLanes counted(int p, int s, int n) {
        FlashLanes x = Due.chip(p, s, n, 1, 1);
        for (int a = 0; a < p * s * n; a += p) {
            Due.program(x, a, a, p);
        }
        return x;
    }

    private static void selectedOrNot() {
        Due.by("A CHIP is SELECTED, BYTES are PUT, it is RELEASED");
        FlashLanes x = new FlashLanes();
        Due.is("release, new", x.release(), NO);
        Due.is("put, new", x.put(0), NO);
        Due.is("select", x.select(), 1);
        Due.is("select, is", x.select(), NO);
        Due.is("send, is", x.send(5, 0, 0, 0), NO);
        Due.is("order, is", x.order(5, 0, 1), NO);
        Due.is("release", x.release(), 0);
        Due.is("release, is not", x.release(), NO);
        Due.is("put, is not", x.put(0), NO);
        Due.is("send", x.send(5, 0, 0, 0), 0);
        Due.is("release behind send", x.release(), NO);
        Due.is("order", x.order(5, 0, 1), 0);
        Due.is("release behind order", x.release(), NO);
        Due.is("select", x.select(), 1);
    }

    private static void clocks() {
        Due.by("Each PUT takes 8 by LANES CLOCKS");
        int[] each = {8, 4, 2, 1};
        for (int lanes = 0; lanes <= 3; lanes++) {
            FlashLanes x = new FlashLanes();
            Due.is("none at first", x.count(8), 0);
            x.order(49, lanes, 1);
            Due.is("LANES itself is put by 1", x.count(8), 16);
            Due.is("select takes none", x.select() * 0 + x.count(8), 16);
            for (int i = 1; i <= 20; i++) {
                x.put(0);
                Due.is("PUT " + i, x.count(8), 16 + i * each[lanes]);
            }
            x.release();
            Due.is("release takes none", x.count(8), 16 + 20 * each[lanes]);
            x.tick(99);
            Due.is("TICKS take none", x.count(8), 16 + 20 * each[lanes]);
            x.order(49, 0, 1);
            Due.is("back by those it has yet", x.count(8), 16 + 22 * each[lanes]);
            x.order(0, 0, 0);
            Due.is("1 then", x.count(8), 16 + 22 * each[lanes] + 8);
        }
    }

    /** More than 512 calls: no shorter life comes to a million, and the document tells of it all the same. */
    private static void clocksGoRound() {
        Due.by("CLOCKS (modulo 1000000)");
        FlashLanes x = new FlashLanes();
        for (int i = 0; i < 2976; i++) {
            x.send(0, 0, 0, 40);
        }
        x.order(0, 0, 6);
        Due.is("the last one ahead", x.count(8), 999992);
        x.order(0, 0, 0);
        Due.is("round", x.count(8), 0);
    }

    private static void answers255() {
        Due.by("answers a BYTE: 255, if nothing else is told here");
        List<Integer> reading = List.of(3, 11, 90, 5);
        for (int command = 0; command <= 255; command++) {
            FlashLanes x = counted(4, 2, 2);
            x.select();
            Due.is("the COMMAND " + command, x.put(command), 255);
            for (int i = 0; i < 8 && !reading.contains(command); i++) {
                Due.is("behind " + command, x.put(0), 255);
            }
        }
        FlashLanes x = counted(4, 2, 2);
        x.select();
        puts(x, new int[] {3, 5}, new int[] {255, 255});
        x.release();
        x.select();
        puts(x, new int[] {11, 5, 3}, new int[] {255, 255, 255});
        x.release();
        x.select();
        puts(x, new int[] {90, 0, 0}, new int[] {255, 255, 255});
    }

    private static void addressModuloAll() {
        Due.by("an ADDRESS is one PUT (modulo ALL)");
        int[][] shapes = {{4, 2, 2}, {8, 2, 3}, {16, 2, 3}, {4, 8, 7}, {8, 4, 8}};
        for (int[] shape : shapes) {
            int all = shape[0] * shape[1] * shape[2];
            FlashLanes x = counted(shape[0], shape[1], shape[2]);
            for (int address : new int[] {0, 1, all - 1, all, all + 1, 2 * all - 1, 2 * all, 254, 255}) {
                if (address <= 255) {
                    Due.is("READ " + address + " of " + all, x.send(3, address, 0, 1), address % all);
                    Due.is("FAST " + address + " of " + all, x.send(11, address, 0, 2), address % all);
                    changingAddress(shape, address);
                }
            }
        }
    }

    private static void changingAddress(int[] shape, int address) {
        int all = shape[0] * shape[1] * shape[2];
        int sector = address % all / (shape[0] * shape[1]);
        FlashLanes x = Due.chip(shape[0], shape[1], shape[2], 1, 1);
        Due.program(x, address, 9, 1);
        for (int a = 0; a < all; a++) {
            Due.is("PROGRAM " + address + " of " + all + " at " + a, x.at(a), a == address % all ? 9 : 255);
        }
        x.send(54, address, 0, 0);
        for (int s = 0; s < shape[2]; s++) {
            Due.is("LOCK " + address + " of " + all, x.sector(s, 2), s == sector ? 1 : 0);
        }
        x.send(57, address, 0, 0);
        Due.is("FREE " + address + " of " + all, x.sector(sector, 2), 0);
        Due.erase(x, address);
        for (int s = 0; s < shape[2]; s++) {
            Due.is("ERASE " + address + " of " + all, x.sector(s, 4), s == sector ? 1 : 0);
        }
        x.tick(1);
        Due.is("erased " + address + " of " + all, x.at(address % all), 255);
    }

    private static void readRound() {
        Due.by("READ: the BYTE there, then the next one, .., behind the last one BYTE 0 again, and so round");
        int[][] shapes = {{4, 2, 2}, {8, 2, 3}, {16, 2, 3}, {4, 8, 7}, {8, 4, 8}, {16, 8, 2}};
        for (int[] shape : shapes) {
            int all = shape[0] * shape[1] * shape[2];
            for (int from : new int[] {0, 1, all - 1, all / 2}) {
                FlashLanes x = counted(shape[0], shape[1], shape[2]);
                x.select();
                puts(x, new int[] {3, from}, new int[] {255, 255});
                for (int i = 0; i < Math.min(3 * all, 300); i++) {
                    Due.is("READ from " + from + " of " + all + ", " + i, x.put(i & 255), (from + i) % all);
                }
            }
        }
    }

    private static void readIsCutByRelease() {
        Due.by("READ: an ADDRESS each time anew");
        FlashLanes x = counted(4, 2, 2);
        Due.is("READ", x.send(3, 5, 0, 3), 7);
        Due.is("READ, the command alone", x.order(3, 0, 0), 255);
        Due.is("READ, the address alone", x.order(3, 5, 1), 255);
        Due.is("READ", x.send(3, 5, 0, 1), 5);
        Due.is("READ with 40", x.send(3, 5, 0, 40), (5 + 39) % 16);
        Due.is("FAST, the address alone", x.send(11, 5, 0, 0), 255);
        Due.is("FAST, the idle one alone", x.send(11, 5, 0, 1), 255);
        Due.is("FAST", x.send(11, 5, 0, 2), 5);
    }

    private static void fastRound() {
        Due.by("FAST: as READ, an idle PUT behind the ADDRESS");
        for (int idle : new int[] {0, 3, 255}) {
            FlashLanes x = counted(4, 2, 3);
            x.select();
            puts(x, new int[] {11, 23, idle}, new int[] {255, 255, 255});
            for (int i = 0; i < 60; i++) {
                Due.is("FAST from 23, " + i, x.put(idle), (23 + i) % 24);
            }
        }
    }

    private static void tableEnds() {
        Due.by("TABLE: BYTES of TABLE from the ADDRESS on; behind its end 255");
        int[] table = {83, 70, 4, 2, 3, 9, 20, 191};
        for (int from = 0; from <= 255; from++) {
            FlashLanes x = Due.chip(4, 2, 3, 9, 20);
            x.select();
            puts(x, new int[] {90, from, 0}, new int[] {255, 255, 255});
            for (int i = 0; i < 20; i++) {
                Due.is("TABLE from " + from + ", " + i, x.put(0), from + i < 8 ? table[from + i] : 255);
            }
        }
        Due.by("TABLE: behind its end 255, not round again");
        FlashLanes x = new FlashLanes();
        x.select();
        puts(x, new int[] {90, 6, 0, 0, 0}, new int[] {255, 255, 255, 5, 180});
        for (int i = 0; i < 300; i++) {
            Due.is("behind the end, " + i, x.put(0), 255);
        }
    }

    private static void tableNotModulo() {
        Due.by("TABLE: the ADDRESS as PUT, not modulo");
        FlashLanes x = Due.chip(4, 2, 2, 2, 5);
        Due.is("TABLE from 7", x.send(90, 7, 0, 2), 168);
        Due.is("TABLE from 8", x.send(90, 8, 0, 2), 255);
        Due.is("TABLE from 16, which is ALL", x.send(90, 16, 0, 2), 255);
        Due.is("TABLE from 240", x.send(90, 240, 0, 2), 255);
        Due.is("TABLE from 255, the second", x.send(90, 255, 0, 3), 255);
    }

    private static void statusAtEachPut() {
        Due.by("STATUS: each further PUT answers STATUS");
        FlashLanes x = new FlashLanes();
        Due.level(x, 7);
        Due.is("LEVEL 7", x.order(5, 0, 1), 28);
        Due.level(x, 0);
        Due.erase(x, 0);
        Due.is("STATUS itself, busy", x.order(5, 0, 0), 255);
        x.select();
        puts(x, new int[] {5, 0, 255}, new int[] {255, 1, 1});
        x.tick(4);
        Due.is("the last TICK is ahead", x.put(6), 1);
        x.tick(1);
        Due.is("done", x.put(0), 0);
        for (int i = 0; i < 300; i++) {
            Due.is("and so on", x.put(i & 255), 0);
        }
        Due.is("release", x.release(), 0);
    }

    private static void nothingDoneByReading() {
        Due.by("of READ, FAST, TABLE, STATUS nothing is done");
        for (Scene scene : Scene.values()) {
            for (int command : new int[] {3, 11, 90, 5}) {
                for (int n = 0; n <= 4 && !scene.selected; n++) {
                    asCommand0(scene, command, n);
                }
            }
        }
    }

    /** 0 is no command: what does nothing leaves the same behind as it does, clocks and all. */
    private static void asCommand0(Scene scene, int command, int n) {
        for (int future : new int[] {0, 2, 3, 6, 7}) {
            Twins.areAlike(scene + ": " + command + " with " + n, x -> {
                scene.make.accept(x);
                x.order(command, 1, n);
            }, x -> {
                scene.make.accept(x);
                x.order(0, 1, n);
            }, future);
        }
    }

    private static boolean isAsTold(int command, int n) {
        switch (command) {
            case 6:
            case 4:
            case 199:
            case 117:
            case 122:
            case 102:
            case 153:
                return n == 0;
            case 1:
            case 32:
            case 49:
            case 54:
            case 57:
                return n == 1;
            case 2:
                return n >= 2;
            default:
                return false;
        }
    }

    private static void bytesAsTold() {
        Due.by("what the COMMAND does is done, if it has just as many BYTES behind it as told here");
        for (Scene scene : Scene.values()) {
            for (int command : COMMANDS) {
                for (int n : new int[] {0, 1, 2, 3, 40}) {
                    if (!scene.selected && !isAsTold(command, n)) {
                        asCommand0(scene, command, n);
                    }
                }
            }
        }
    }

    private static void bytesAsToldWhileBusy() {
        Due.by("While it is BUSY it answers to STATUS and does SUSPEND alone");
        for (Scene scene : Scene.values()) {
            for (int command : COMMANDS) {
                for (int n : new int[] {0, 1, 2, 3, 40}) {
                    if (scene.busy && !scene.selected && (command != 117 || n != 0)) {
                        asCommand0(scene, command, n);
                    }
                }
            }
        }
        Due.by("TELL, PROGRAM, ERASE, ALL want it to be ENABLED (nothing is done else)");
        for (Scene scene : Scene.values()) {
            for (int command : new int[] {1, 2, 32, 199}) {
                for (int n : new int[] {0, 1, 2, 3, 40}) {
                    if (!scene.selected && !scene.enabled) {
                        asCommand0(scene, command, n);
                    }
                }
            }
        }
    }

    private static void commandsNotTold() {
        Due.by("nothing is done by what is no COMMAND");
        for (int command = 0; command <= 255; command++) {
            int c = command;
            if (Arrays.stream(COMMANDS).noneMatch(told -> told == c)) {
                for (int n = 0; n <= 2; n++) {
                    asCommand0(Scene.ALL_SET, command, n);
                    asCommand0(Scene.READIED, command, n);
                }
            }
        }
    }

    private static void doneWhenReleased() {
        Due.by("When RELEASED, what the COMMAND does is done");
        FlashLanes x = new FlashLanes();
        x.select();
        x.put(6);
        Due.is("not yet", x.count(7), 0);
        Due.is("then", x.release(), 2);
        x.select();
        x.put(49);
        x.put(3);
        Due.is("LANES, not yet", x.count(6), 1);
        x.release();
        Due.is("LANES then", x.count(6), 8);
        x.select();
        Due.is("release with none put", x.release(), 2);
        x.select();
        x.put(2);
        x.put(0);
        x.put(0);
        Due.is("PROGRAM, not yet", x.at(0), 255);
        Due.is("PROGRAM, not busy yet", x.tick(1), 0);
        Due.is("PROGRAM, not begun yet", x.count(13), 0);
        Due.is("PROGRAM then", x.release(), 1);
        Due.is("in its BYTES at once", x.at(0), 0);
    }

    private static void lanes() {
        Due.by("LANES: a BYTE 0 to 3: LANES are 1, 2, 4, 8 then (else nothing is done)");
        for (int v = 0; v <= 255; v++) {
            FlashLanes x = new FlashLanes();
            x.order(49, 1, 1);
            x.order(49, v, 1);
            Due.is("LANES " + v, x.count(6), v <= 3 ? 1 << v : 2);
            Due.is("select", x.select(), v <= 3 ? 1 << v : 2);
        }
    }

    private static void sentBytesGoRound() {
        Due.by("then n BYTES: v, v and 1, .. (modulo 256)");
        FlashLanes x = Due.chip(16, 2, 2, 1, 1);
        Due.program(x, 0, 250, 16);
        int[] due = {250, 251, 252, 253, 254, 255, 0, 1, 2, 3, 4, 5, 6, 7, 8, 9};
        for (int i = 0; i < 16; i++) {
            Due.is("sent " + i, x.at(i), due[i]);
        }
        Due.enable(x);
        x.order(2, 255, 3);
        Due.is("ordered: 255 is the ADDRESS", x.at(255 % 64), 0);
        Due.is("ordered: then 0, 1", x.at(48), 1);
        x.tick(1);
        Due.enable(x);
        x.order(1, 255, 1);
        Due.is("one BYTE is v", x.count(7), 28);
        x.order(49, 3, 1);
        Due.is("one BYTE is v", x.count(6), 8);
    }

    private static void ordersAreSends() {
        Due.by("send, order: what the last PUT answered");
        FlashLanes x = counted(4, 2, 2);
        for (int n = 0; n <= 40; n++) {
            Due.is("send of READ, " + n, x.send(3, 13, 0, n), n == 0 ? 255 : (12 + n) % 16);
            Due.is("order of READ, " + n, x.order(3, 13, n), n <= 1 ? 255 : (11 + n) % 16);
        }
        Due.is("send of STATUS, the ADDRESS is the last", x.send(5, 0, 0, 0), 0);
        Due.is("order of STATUS, the COMMAND is the last", x.order(5, 0, 0), 255);
        Due.by("send, order: as SELECTED, PUT, RELEASED by hand");
        for (Scene scene : Scene.values()) {
            for (int command : COMMANDS) {
                if (!scene.selected) {
                    byHand(scene, command);
                }
            }
        }
    }

    private static void byHand(Scene scene, int command) {
        for (int n = 0; n <= 3; n++) {
            int many = n;
            Twins.areAlike(scene + ": order of " + command + " with " + n, x -> {
                scene.make.accept(x);
                x.order(command, 2, many);
            }, x -> {
                scene.make.accept(x);
                hand(x, command, 2, many);
            }, 0);
            Twins.areAlike(scene + ": send of " + command + " with " + n, x -> {
                scene.make.accept(x);
                x.send(command, 2, 3, many);
            }, x -> {
                scene.make.accept(x);
                hand(x, command, 2, many + 1);
            }, 0);
        }
    }

    private static void hand(FlashLanes x, int command, int v, int n) {
        x.select();
        x.put(command);
        for (int i = 0; i < n; i++) {
            x.put(v + i);
        }
        x.release();
    }

    private static void putsCounted() {
        Due.by("BYTES PUT since it was SELECTED (0, if it is not)");
        FlashLanes x = new FlashLanes();
        Due.is("not selected", x.count(10), 0);
        x.select();
        Due.is("none put", x.count(10), 0);
        x.put(0);
        Due.is("the COMMAND", x.count(10), 1);
        x.put(256);
        Due.is("BAD is not put", x.count(10), 1);
        x.put(0);
        Due.is("two", x.count(10), 2);
        x.release();
        Due.is("released", x.count(10), 0);
        x.order(0, 0, 40);
        Due.is("behind an order", x.count(10), 0);
        x.select();
        Due.is("anew", x.count(10), 0);
    }

    private static void lifeOfPuts() {
        Due.by("An object is used for at most 512 calls");
        FlashLanes x = new FlashLanes();
        Due.enable(x);
        x.select();
        x.put(2);
        x.put(3);
        for (int i = 0; i < 500; i++) {
            Due.is("PUT", x.put(i < 492 ? 0 : i & 255), 255);
        }
        Due.is("BYTES PUT", x.count(10), 502);
        Due.is("CLOCKS", x.count(8), 8 * 503);
        Due.is("release", x.release(), 1);
        Due.is("the last one PUT", x.at((3 + 499) % 8), 499 & 255);
        Due.is("the first of the last eight", x.at((3 + 492) % 8), 492 & 255);
        Due.is("tick", x.tick(99), 2);
    }
}
