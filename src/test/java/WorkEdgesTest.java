import java.util.List;
import java.util.function.Consumer;

/** Programs, erases, ticks, what is suspended, enabled, guarded, locked and refused: where each begins and ends. */
public final class WorkEdgesTest {
    private static final int[][] SHAPES = {{4, 2, 2}, {4, 8, 8}, {8, 2, 3}, {8, 4, 8}, {16, 2, 3}, {16, 8, 2}};

    public static void main(String[] args) {
        enable();
        disable();
        tellLevel();
        programRoundPage();
        programLastCounts();
        programOnesAlone();
        programWantsAByte();
        programAtOnce();
        eraseSector();
        eraseWhenDone();
        eraseAll();
        ticksTaken();
        ticksCounted();
        enabledUsedUp();
        refusedChangesNothing();
        guardedByLevel();
        guardedByLock();
        allIfAnyIsGuarded();
        lockWantsNothing();
        suspend();
        suspendNothing();
        suspendedRefuses();
        resume();
        resumeGuarded();
        resumeNothing();
        ready();
        readyAndReset();
        resetLeaves();
        busyAtThatPut();
        busyWhenReleased();
        statusBits();
        sectorLookedAt();
        begun();
        Due.end();
    }

    private static int all(int[] shape) {
        return shape[0] * shape[1] * shape[2];
    }

    private static FlashLanes chip(int[] shape, int t, int e) {
        return Due.chip(shape[0], shape[1], shape[2], t, e);
    }

    private static void begin(FlashLanes x, int command, int a) {
        Due.enable(x);
        if (command == 199) {
            x.order(199, 0, 0);
        } else {
            x.send(command, a, 0, command == 2 ? 1 : 0);
        }
    }

    private static FlashLanes suspendedAt(int a, int ticks) {
        FlashLanes x = new FlashLanes();
        Due.erase(x, a);
        if (ticks > 0) {
            x.tick(ticks);
        }
        x.order(117, 0, 0);
        return x;
    }

    private static void enable() {
        Due.by("ENABLE no BYTE: it is ENABLED, no ERROR");
        FlashLanes x = new FlashLanes();
        Due.enable(x);
        Due.is("enabled", x.count(7), 2);
        Due.enable(x);
        Due.is("enabled twice", x.count(7), 2);
        x.send(54, 0, 0, 0);
        x.send(32, 0, 0, 0);
        Due.is("error", x.count(7), 128);
        x.order(6, 0, 1);
        Due.is("with a BYTE", x.count(7), 128);
        Due.enable(x);
        Due.is("no error", x.count(7), 2);
    }

    private static void disable() {
        Due.by("DISABLE no BYTE: it is not ENABLED");
        FlashLanes x = new FlashLanes();
        x.order(4, 0, 0);
        Due.is("was not", x.count(7), 0);
        Due.enable(x);
        x.order(4, 0, 1);
        Due.is("with a BYTE", x.count(7), 2);
        x.order(4, 0, 0);
        Due.is("not enabled", x.count(7), 0);
        x.send(2, 0, 0, 1);
        Due.is("nothing is done", x.at(0), 255);
        x.send(54, 0, 0, 0);
        Due.erase(x, 0);
        x.order(4, 0, 0);
        Due.is("the ERROR stays", x.count(7), 128);
    }

    private static void tellLevel() {
        Due.by("TELL a BYTE: LEVEL is it by 4, cut, modulo 8");
        for (int v = 0; v <= 255; v++) {
            FlashLanes x = new FlashLanes();
            Due.level(x, v < 128 ? 7 : 0);
            Due.enable(x);
            x.order(1, v, 1);
            Due.is("TELL " + v, x.count(7), 4 * ((v / 4) % 8));
            Due.is("not busy", x.tick(1), 0);
        }
    }

    private static void programRoundPage() {
        Due.by("PROGRAM: each further one for the next in its PAGE, behind the last of that its first");
        for (int[] shape : SHAPES) {
            int p = shape[0];
            int all = all(shape);
            for (int a : new int[] {0, 1, p - 1, p, all - p, all - 2, all - 1}) {
                for (int n : new int[] {1, 2, p - 1, p}) {
                    programmed(chip(shape, 1, 1), p, all, a, n);
                }
            }
        }
    }

    private static void programmed(FlashLanes x, int p, int all, int a, int n) {
        Due.program(x, a, 10, n);
        int page = a / p * p;
        for (int i = 0; i < all; i++) {
            int behind = (i - a + 2 * p) % p;
            boolean put = i >= page && i < page + p && behind < n;
            Due.is(n + " from " + a + " in pages of " + p + ", at " + i, x.at(i), put ? 10 + behind : 255);
        }
    }

    private static void programLastCounts() {
        Due.by("PROGRAM: of several for one the last counts");
        for (int p : new int[] {4, 8, 16}) {
            for (int n = p; n <= 40; n++) {
                FlashLanes x = Due.chip(p, 2, 2, 1, 1);
                Due.program(x, p + 1, 100, n);
                for (int i = 0; i < p; i++) {
                    int last = n - 1 - i;
                    Due.is(n + " in a page of " + p, x.at(p + (1 + last) % p), 100 + last);
                }
                Due.is("ahead", x.at(p - 1), 255);
                Due.is("behind", x.at(2 * p), 255);
            }
        }
        FlashLanes x = Due.chip(4, 2, 2, 1, 1);
        Due.enable(x);
        x.select();
        for (int v : new int[] {2, 0, 0, 0, 0, 0, 255}) {
            x.put(v);
        }
        x.release();
        Due.is("0, then 255 for the same", x.at(0), 255);
        Due.is("0 alone", x.at(1), 0);
    }

    private static void programOnesAlone() {
        Due.by("PROGRAM: only ones that both have are left in it");
        FlashLanes x = Due.chip(4, 2, 2, 1, 1);
        int[][] pairs = {{255, 0}, {0, 255}, {240, 15}, {170, 204}, {1, 128}, {255, 255}, {254, 127}};
        for (int[] pair : pairs) {
            Due.erase(x, 0);
            x.tick(1);
            Due.program(x, 3, pair[0], 1);
            Due.is("first", x.at(3), pair[0]);
            Due.program(x, 3, pair[1], 1);
            Due.is(pair[0] + ", then " + pair[1], x.at(3), pair[0] & pair[1]);
        }
        Due.enable(x);
        x.send(2, 3, 255, 1);
        Due.is("255 changes none, yet it is begun", x.count(7), 1);
    }

    private static void programWantsAByte() {
        Due.by("PROGRAM an ADDRESS, then one BYTE or more");
        FlashLanes x = new FlashLanes();
        Due.enable(x);
        x.order(2, 0, 0);
        Due.is("no ADDRESS", x.count(7), 2);
        x.send(2, 0, 0, 0);
        Due.is("no BYTE", x.count(7), 2);
        x.send(2, 0, 0, 1);
        Due.is("one BYTE", x.count(7), 1);
        Due.is("it", x.at(0), 0);
        Due.is("the next one", x.at(1), 255);
    }

    private static void programAtOnce() {
        Due.by("a PROGRAM is in its BYTES at once");
        FlashLanes x = Due.chip(4, 2, 2, 9, 1);
        Due.enable(x);
        x.send(2, 2, 7, 3);
        Due.is("the first", x.at(2), 7);
        Due.is("the last", x.at(0), 9);
        Due.is("busy all the same", x.count(9), 9);
        Due.is("TICKS", x.tick(9), 9);
        Due.is("the same then", x.at(2), 7);
    }

    private static void eraseSector() {
        Due.by("ERASE an ADDRESS: all BYTES of its SECTOR are 255 when it is done");
        for (int[] shape : SHAPES) {
            int bytes = shape[0] * shape[1];
            for (int s : new int[] {0, shape[2] - 1}) {
                for (int a : new int[] {s * bytes, s * bytes + bytes - 1}) {
                    FlashLanes x = edgesProgrammed(shape);
                    Due.erase(x, a);
                    x.tick(1);
                    edgesAre(x, shape, s);
                }
            }
        }
    }

    /** The first and the last byte of every sector are 0. */
    private static FlashLanes edgesProgrammed(int[] shape) {
        FlashLanes x = chip(shape, 1, 1);
        int bytes = shape[0] * shape[1];
        for (int s = 0; s < shape[2]; s++) {
            Due.program(x, s * bytes, 0, 1);
            Due.program(x, s * bytes + bytes - 1, 0, 1);
        }
        return x;
    }

    private static void edgesAre(FlashLanes x, int[] shape, int erased) {
        int bytes = shape[0] * shape[1];
        for (int s = 0; s < shape[2]; s++) {
            int due = s == erased || erased < 0 ? 255 : 0;
            Due.is("first of " + s, x.at(s * bytes), due);
            Due.is("last of " + s, x.at(s * bytes + bytes - 1), due);
            Due.is("blanks of " + s, x.sector(s, 0), due == 255 ? bytes : bytes - 2);
        }
    }

    private static void eraseWhenDone() {
        Due.by("an ERASE, ALL when they are done");
        for (int command : new int[] {32, 199}) {
            FlashLanes x = Due.chip(4, 2, 3, 1, 20);
            Due.program(x, 9, 5, 2);
            begin(x, command, 8);
            for (int tick = 1; tick < (command == 32 ? 20 : 60); tick++) {
                x.tick(1);
                Due.is(command + ", not done by " + tick, x.at(9), 5);
            }
            x.tick(1);
            Due.is(command + ", done", x.at(9), 255);
            Due.is(command + ", done", x.at(10), 255);
        }
    }

    private static void eraseAll() {
        Due.by("ALL no BYTE: all BYTES are 255 when it is done");
        for (int[] shape : SHAPES) {
            FlashLanes x = edgesProgrammed(shape);
            begin(x, 199, 0);
            x.tick(shape[2]);
            edgesAre(x, shape, -1);
        }
        FlashLanes x = new FlashLanes();
        Due.enable(x);
        x.order(199, 0, 1);
        Due.is("with a BYTE", x.count(7), 2);
    }

    private static void ticksTaken() {
        Due.by("BUSY for T, E, E times N TICKS are PROGRAM, ERASE, ALL; at 0 it is done");
        for (int t = 1; t <= 9; t++) {
            busyFor(Due.chip(4, 2, 2, t, 1), 2, t);
        }
        for (int e = 1; e <= 20; e++) {
            busyFor(Due.chip(4, 2, 2, 1, e), 32, e);
            busyFor(Due.chip(4, 2, 2, 1, e), 199, 2 * e);
            busyFor(Due.chip(4, 2, 8, 1, e), 199, 8 * e);
        }
    }

    private static void busyFor(FlashLanes x, int command, int ticks) {
        begin(x, command, 0);
        for (int left = ticks; left > 0; left--) {
            Due.is(command + " of " + ticks + ", left", x.count(9), left);
            Due.is(command + " of " + ticks + ", busy", x.count(7), 1);
            Due.is(command + " of " + ticks + ", TICK", x.tick(1), 1);
        }
        Due.is(command + " of " + ticks + ", none left", x.count(9), 0);
        Due.is(command + " of " + ticks + ", done", x.count(7), 0);
        Due.is(command + " of " + ticks + ", TICK", x.tick(1), 0);
    }

    private static void ticksCounted() {
        Due.by("n TICKS (1 to 99): how many of them it was BUSY ahead of");
        for (int n = 1; n <= 99; n++) {
            FlashLanes x = Due.chip(4, 2, 2, 1, 20);
            Due.is("idle", x.tick(n), 0);
            Due.erase(x, 0);
            Due.is("tick(" + n + ") of 20", x.tick(n), Math.min(n, 20));
            Due.is("left", x.count(9), Math.max(0, 20 - n));
        }
        for (int e = 1; e <= 20; e++) {
            for (int n = 2; n <= 8; n++) {
                FlashLanes x = Due.chip(4, 2, n, 1, e);
                begin(x, 199, 0);
                Due.is("ALL of " + n + " by " + e, x.tick(99), Math.min(99, n * e));
                Due.is("ALL of " + n + " by " + e + ", the rest", x.tick(99), Math.max(0, n * e - 99));
            }
        }
        FlashLanes x = Due.chip(4, 2, 8, 1, 20);
        begin(x, 199, 0);
        Due.is("tick(99) of 160", x.tick(99), 99);
        Due.is("left", x.count(9), 61);
        Due.is("tick(99) of 61", x.tick(99), 61);
        Due.is("tick(99) of none", x.tick(99), 0);
        x.order(199, 0, 0);
        Due.is("one done does not begin again", x.tick(99), 0);
    }

    private static void enabledUsedUp() {
        Due.by("want it to be ENABLED (nothing is done else); then it is not ENABLED any more");
        for (int command : new int[] {1, 2, 32, 199}) {
            FlashLanes x = new FlashLanes();
            x.order(command, 8, command == 199 ? 0 : command == 2 ? 2 : 1);
            Due.is(command + ", not enabled", x.count(7), 0);
            Due.is(command + ", none begun", x.count(13), 0);
            Due.enable(x);
            x.order(command, 8, command == 199 ? 0 : command == 2 ? 2 : 1);
            Due.is(command + ", not enabled any more", x.count(7), command == 1 ? 8 : 1);
            x.tick(99);
            x.order(command, 0, command == 199 ? 0 : command == 2 ? 2 : 1);
            Due.is(command + ", once alone", x.count(7), command == 1 ? 8 : 0);
            Due.is(command + ", begun", x.count(13), command == 1 ? 0 : 1);
        }
        FlashLanes x = new FlashLanes();
        Due.enable(x);
        x.send(54, 0, 0, 0);
        x.send(57, 0, 0, 0);
        x.order(49, 1, 1);
        x.order(122, 0, 0);
        x.order(117, 0, 0);
        x.order(102, 0, 0);
        x.send(3, 0, 0, 3);
        Due.is("others leave it", x.count(7), 2);
    }

    /** All that is seen is as ahead of it but for STATUS, where it is not enabled and there is an error. */
    private static void refusedAt(FlashLanes x, String what, int command, int a) {
        List<Integer> ahead = Twins.look(x);
        Due.enable(x);
        int clocks = x.count(8);
        x.order(command, a, command == 199 ? 0 : command == 2 ? 2 : 1);
        List<Integer> behind = Twins.look(x);
        Due.is(what + ", STATUS", behind.get(7), ahead.get(7) & ~2 | 128);
        Due.is(what + ", CLOCKS", behind.get(8), clocks + 8 * (command == 199 ? 1 : command == 2 ? 3 : 2));
        behind.set(7, ahead.get(7));
        behind.set(8, ahead.get(8));
        Due.is(what + ", changed", Twins.firstOther(ahead, behind), -1);
        Due.is(what + ", no TICKS", x.tick(99), 0);
    }

    private static FlashLanes smallWithLock() {
        FlashLanes x = Due.chip(4, 2, 3, 2, 5);
        Due.program(x, 8, 7, 2);
        x.send(54, 8, 0, 0);
        return x;
    }

    private static FlashLanes smallSuspended() {
        FlashLanes x = Due.chip(4, 2, 3, 2, 5);
        Due.program(x, 8, 7, 2);
        Due.erase(x, 8);
        x.tick(2);
        x.order(117, 0, 0);
        return x;
    }

    private static void refusedChangesNothing() {
        Due.by("They are refused, by which there is an ERROR: PROGRAM, ERASE in a GUARDED SECTOR");
        refusedAt(smallWithLock(), "PROGRAM, first of a locked one", 2, 8);
        refusedAt(smallWithLock(), "PROGRAM, last of a locked one", 2, 15);
        refusedAt(smallWithLock(), "ERASE, first of a locked one", 32, 8);
        refusedAt(smallWithLock(), "ERASE, last of a locked one", 32, 15);
        Due.by("ALL, if any SECTOR is GUARDED");
        refusedAt(smallWithLock(), "ALL, a locked one", 199, 0);
        Due.by("ERASE, ALL, TELL while something is SUSPENDED, PROGRAM in that SECTOR");
        refusedAt(smallSuspended(), "ERASE of it", 32, 8);
        refusedAt(smallSuspended(), "ERASE of another", 32, 0);
        refusedAt(smallSuspended(), "ERASE behind", 32, 16);
        refusedAt(smallSuspended(), "ALL", 199, 0);
        refusedAt(smallSuspended(), "TELL", 1, 4);
        refusedAt(smallSuspended(), "TELL of the same", 1, 0);
        refusedAt(smallSuspended(), "PROGRAM, first of it", 2, 8);
        refusedAt(smallSuspended(), "PROGRAM, last of it", 2, 15);
        refusedAt(smallSuspended(), "PROGRAM, modulo", 2, 24 + 8);
    }

    private static int beginsAt(FlashLanes x, int command, int a) {
        begin(x, command, a);
        int status = x.count(7) & (128 | 1);
        x.tick(99);
        x.tick(99);
        return status;
    }

    private static void guardedByLevel() {
        Due.by("GUARDED is a SECTOR that is one of the LEVEL last ones");
        for (int n = 2; n <= 8; n++) {
            for (int level = 0; level <= 7; level++) {
                FlashLanes x = Due.chip(4, 2, n, 1, 1);
                Due.level(x, level);
                for (int s = 0; s < n; s++) {
                    boolean guarded = s >= n - level;
                    String what = s + " of " + n + " at LEVEL " + level;
                    Due.is(what, x.sector(s, 3), guarded ? 1 : 0);
                    Due.is(what + ", locked", x.sector(s, 2), 0);
                    Due.is(what + ", PROGRAM first", beginsAt(x, 2, s * 8), guarded ? 128 : 1);
                    Due.is(what + ", PROGRAM last", beginsAt(x, 2, s * 8 + 7), guarded ? 128 : 1);
                    Due.is(what + ", ERASE", beginsAt(x, 32, s * 8), guarded ? 128 : 1);
                }
                Due.is("ALL of " + n + " at LEVEL " + level, beginsAt(x, 199, 0), level > 0 ? 128 : 1);
            }
        }
    }

    private static void guardedByLock() {
        Due.by("GUARDED is a SECTOR that is LOCKED");
        for (int locked = 0; locked < 8; locked++) {
            FlashLanes x = new FlashLanes();
            x.send(54, locked * 32 + 31, 0, 0);
            for (int s = 0; s < 8; s++) {
                int due = s == locked ? 1 : 0;
                Due.is("LOCKED " + s, x.sector(s, 2), due);
                Due.is("GUARDED " + s, x.sector(s, 3), due);
                Due.is("PROGRAM in " + s, beginsAt(x, 2, s * 32), due == 1 ? 128 : 1);
                Due.is("PROGRAM in " + s, beginsAt(x, 2, s * 32 + 31), due == 1 ? 128 : 1);
                Due.is("ERASE of " + s, beginsAt(x, 32, s * 32), due == 1 ? 128 : 1);
            }
            x.send(57, locked * 32, 0, 0);
            Due.is("FREE", x.sector(locked, 3), 0);
            Due.is("ERASE, free", beginsAt(x, 32, locked * 32), 1);
        }
        FlashLanes x = new FlashLanes();
        Due.level(x, 1);
        x.send(57, 255, 0, 0);
        Due.is("FREE does not lower the LEVEL", x.sector(7, 3), 1);
        x.send(54, 255, 0, 0);
        Due.level(x, 0);
        Due.is("LEVEL 0 does not free", x.sector(7, 3), 1);
    }

    private static void allIfAnyIsGuarded() {
        Due.by("ALL, if any SECTOR is GUARDED");
        for (int locked = 0; locked < 8; locked++) {
            FlashLanes x = new FlashLanes();
            x.send(54, locked * 32, 0, 0);
            Due.is("ALL, locked " + locked, beginsAt(x, 199, 0), 128);
            x.send(57, locked * 32, 0, 0);
            Due.is("ALL, free " + locked, beginsAt(x, 199, 0), 1);
        }
        FlashLanes x = new FlashLanes();
        Due.level(x, 1);
        Due.is("ALL, LEVEL 1", beginsAt(x, 199, 0), 128);
        Due.level(x, 0);
        Due.is("ALL, LEVEL 0", beginsAt(x, 199, 0), 1);
    }

    private static void lockWantsNothing() {
        Due.by("LOCK an ADDRESS: its SECTOR is LOCKED; FREE: it is not");
        FlashLanes x = new FlashLanes();
        x.send(57, 0, 0, 0);
        Due.is("FREE, was not", x.sector(0, 2), 0);
        x.send(54, 0, 0, 0);
        x.send(54, 31, 0, 0);
        Due.is("LOCKED twice", x.sector(0, 2), 1);
        Due.is("beside", x.sector(1, 2), 0);
        x.send(57, 31, 0, 0);
        Due.is("FREE once", x.sector(0, 2), 0);
        x.send(54, 32, 0, 0);
        Due.is("the next one's first", x.sector(1, 2), 1);
        Due.is("no STATUS", x.count(7), 0);
        FlashLanes y = suspendedAt(0, 1);
        y.send(54, 0, 0, 0);
        Due.is("LOCK, suspended", y.sector(0, 2), 1);
        y.send(57, 0, 0, 0);
        Due.is("FREE, suspended", y.sector(0, 2), 0);
    }

    private static void suspend() {
        Due.by("SUSPEND: an ERASE (of a SECTOR) that is BUSY is SUSPENDED: it is not BUSY");
        for (int ticks = 0; ticks <= 4; ticks++) {
            FlashLanes x = suspendedAt(40, ticks);
            Due.is("STATUS", x.count(7), 64);
            Due.is("left", x.count(9), 5 - ticks);
            Due.is("TICKS go by", x.tick(99), 0);
            Due.is("left still", x.count(9), 5 - ticks);
            Due.is("being ERASED", x.sector(1, 4), 1);
            Due.is("another is not", x.sector(0, 4), 0);
        }
        FlashLanes x = suspendedAt(40, 5);
        Due.is("done already", x.count(7), 0);
        Due.is("none left", x.count(9), 0);
    }

    private static void suspendNothing() {
        Due.by("SUSPEND: an ERASE (of a SECTOR) alone");
        for (int command : new int[] {2, 199}) {
            FlashLanes x = new FlashLanes();
            begin(x, command, 0);
            x.order(117, 0, 0);
            Due.is(command + ", STATUS", x.count(7), 1);
            Due.is(command + ", left", x.count(9), command == 2 ? 2 : 40);
        }
        FlashLanes x = new FlashLanes();
        x.order(117, 0, 0);
        Due.is("not busy", x.count(7), 0);
        FlashLanes y = suspendedAt(0, 3);
        y.order(117, 0, 0);
        Due.is("suspended already", y.count(7), 64);
        Due.is("left", y.count(9), 2);
        Due.enable(y);
        y.send(2, 32, 0, 1);
        y.order(117, 0, 0);
        Due.is("PROGRAM while suspended", y.count(7), 65);
        y.tick(2);
        Due.is("left", y.count(9), 2);
    }

    private static void suspendedRefuses() {
        Due.by("ERASE, ALL, TELL while something is SUSPENDED, PROGRAM in that SECTOR");
        for (int s = 0; s < 8; s++) {
            FlashLanes x = suspendedAt(96, 1);
            Due.is("ERASE of " + s, beginsAt(x, 32, s * 32), 128);
            Due.is("PROGRAM, first of " + s, beginsAt(x, 2, s * 32), s == 3 ? 128 : 1);
            Due.is("PROGRAM, last of " + s, beginsAt(x, 2, s * 32 + 31), s == 3 ? 128 : 1);
            Due.is("ALL", beginsAt(x, 199, 0), 128);
            Due.level(x, 3);
            Due.is("TELL", x.count(7), 64 + 128);
            x.order(122, 0, 0);
            Due.is("the rest", x.tick(99), 4);
            Due.is("ERASE behind it", beginsAt(x, 32, s * 32), 1);
            Due.level(x, 3);
            Due.is("TELL behind it", x.count(7), 12);
        }
    }

    private static void resume() {
        Due.by("RESUME: what is SUSPENDED is BUSY again, with TICKS that it had left");
        for (int ticks = 0; ticks <= 4; ticks++) {
            FlashLanes x = suspendedAt(40, ticks);
            x.order(122, 0, 0);
            Due.is("STATUS", x.count(7), 1);
            Due.is("left", x.count(9), 5 - ticks);
            Due.is("being ERASED", x.sector(1, 4), 1);
            Due.is("TICKS", x.tick(99), 5 - ticks);
            Due.is("done", x.sector(1, 4), 0);
        }
        FlashLanes x = new FlashLanes();
        Due.erase(x, 0);
        for (int left = 5; left > 0; left--) {
            x.order(117, 0, 0);
            Due.is("again and again, left", x.count(9), left);
            x.order(122, 0, 0);
            Due.is("a TICK each", x.tick(1), 1);
        }
        Due.is("done", x.count(7), 0);
    }

    /** Refused are PROGRAM, ERASE, ALL and TELL alone, when they are begun. */
    private static void resumeGuarded() {
        Due.by("They are refused: PROGRAM, ERASE in a GUARDED SECTOR");
        FlashLanes x = new FlashLanes();
        Due.program(x, 40, 7, 1);
        Due.erase(x, 40);
        x.order(117, 0, 0);
        x.send(54, 40, 0, 0);
        Due.is("LOCKED while SUSPENDED, no ERROR", x.count(7), 64);
        x.order(122, 0, 0);
        Due.is("RESUME all the same", x.count(7), 1);
        Due.is("TICKS", x.tick(99), 5);
        Due.is("done, no ERROR", x.count(7), 0);
        Due.is("BYTES", x.at(40), 255);
        Due.is("LOCKED still", x.sector(1, 2), 1);
    }

    private static void resumeNothing() {
        Due.by("RESUME: nothing is SUSPENDED");
        FlashLanes x = new FlashLanes();
        x.order(122, 0, 0);
        Due.is("new", x.count(7), 0);
        FlashLanes y = suspendedAt(0, 3);
        y.order(122, 0, 1);
        Due.is("with a BYTE", y.count(7), 64);
        y.order(122, 0, 0);
        y.tick(2);
        y.order(122, 0, 0);
        Due.is("done", y.count(7), 0);
        FlashLanes z = suspendedAt(0, 3);
        Due.enable(z);
        z.send(2, 32, 0, 1);
        z.order(122, 0, 0);
        Due.is("BUSY with a PROGRAM", z.count(9), 2);
        z.tick(2);
        Due.is("suspended still", z.count(7), 64);
    }

    private static void ready() {
        Due.by("READY no BYTE: nothing but that");
        for (Scene scene : Scene.values()) {
            if (!scene.selected) {
                // what a RESET does is another sentence's, so no future that has one
                for (int future : new int[] {0, 2, 6, 7}) {
                    Twins.areAlike(scene + ": READY", x -> {
                        scene.make.accept(x);
                        x.order(102, 0, 0);
                    }, x -> {
                        scene.make.accept(x);
                        x.order(0, 0, 0);
                    }, future);
                }
            }
        }
    }

    private static void reset(String what, boolean due, Consumer<FlashLanes> between) {
        FlashLanes x = new FlashLanes();
        x.order(49, 3, 1);
        between.accept(x);
        x.order(153, 0, 0);
        Due.is("RESET, " + what, x.count(6), due ? 1 : 8);
    }

    private static void readyAndReset() {
        Due.by("RESET: if the last time it was RELEASED ahead of that (with a COMMAND or none PUT) was for READY");
        reset("never READY", false, x -> { });
        reset("READY", true, x -> x.order(102, 0, 0));
        reset("READY, select put release", true, x -> {
            x.select();
            x.put(102);
            x.release();
        });
        reset("READY twice", true, x -> {
            x.order(102, 0, 0);
            x.order(102, 0, 0);
        });
        for (int command : new int[] {0, 3, 5, 6, 4, 117, 122, 153, 255}) {
            reset("behind READY " + command, false, x -> {
                x.order(102, 0, 0);
                x.order(command, 0, command == 153 ? 1 : 0);
            });
        }
        reset("none PUT between", false, x -> {
            x.order(102, 0, 0);
            x.select();
            x.release();
        });
        reset("kept between", true, x -> {
            x.order(102, 0, 0);
            x.keep();
        });
        reset("another RELEASE between, taken back", true, x -> {
            x.order(102, 0, 0);
            x.keep();
            x.order(6, 0, 0);
            x.back();
        });
        reset("READY taken back", false, x -> {
            x.keep();
            x.order(102, 0, 0);
            x.back();
        });
        reset("a text between, not LAID", true, x -> {
            x.order(102, 0, 0);
            x.write('t');
            x.fault();
            x.lay();
            x.wipe();
        });
        reset("looks and TICKS between", true, x -> {
            x.order(102, 0, 0);
            Twins.look(x);
            x.tick(99);
            x.release();
            x.put(0);
            x.send(0, 0, 0, 41);
        });
        Due.by("RESET: for READY without a BYTE");
        reset("READY with a BYTE", false, x -> x.order(102, 0, 1));
        reset("READY with an ADDRESS", false, x -> x.send(102, 0, 0, 0));
        Due.by("RESET no BYTE");
        FlashLanes x = new FlashLanes();
        x.order(49, 3, 1);
        x.order(102, 0, 0);
        x.order(153, 0, 1);
        Due.is("RESET with a BYTE", x.count(6), 8);
        x.order(102, 0, 0);
        x.order(153, 0, 0);
        x.order(49, 3, 1);
        x.order(153, 0, 0);
        Due.is("RESET again, no READY", x.count(6), 8);
        Due.by("RESET: READY, not BUSY");
        reset("READY while BUSY", false, y -> {
            Due.erase(y, 0);
            y.order(102, 0, 0);
            y.tick(5);
        });
        reset("READY put while BUSY, RELEASED when done", true, y -> {
            Due.erase(y, 0);
            y.select();
            y.put(102);
            y.tick(5);
            y.release();
        });
        reset("RESET while BUSY", false, y -> {
            Due.erase(y, 0);
            y.order(102, 0, 0);
        });
    }

    private static void resetLeaves() {
        Due.by("RESET: LANES are 1, it is not ENABLED, no ERROR, what is SUSPENDED is dropped (its BYTES stay)");
        FlashLanes x = new FlashLanes();
        Due.program(x, 40, 3, 2);
        x.send(54, 0, 0, 0);
        Due.level(x, 2);
        Due.erase(x, 40);
        x.tick(4);
        x.order(117, 0, 0);
        x.order(49, 2, 1);
        Due.erase(x, 0);
        Due.is("STATUS ahead", x.count(7), 64 + 128 + 8);
        List<Integer> ahead = Twins.look(x);
        x.order(102, 0, 0);
        x.order(153, 0, 0);
        Due.is("STATUS", x.count(7), 8);
        Due.is("LANES", x.count(6), 1);
        Due.is("none left", x.count(9), 0);
        Due.is("not being ERASED", x.sector(1, 4), 0);
        Due.is("its BYTES stay", x.at(40), 3);
        Due.is("LOCKED stays", x.sector(0, 2), 1);
        Due.is("begun stays", x.count(13), ahead.get(13));
        Due.is("CLOCKS go on", x.count(8), ahead.get(8) + 4);
        x.order(122, 0, 0);
        Due.is("nothing to RESUME", x.tick(99), 0);
        Due.is("its BYTES stay", x.at(40), 3);
        Due.enable(x);
        x.order(102, 0, 0);
        Due.is("READY leaves it ENABLED", x.count(7), 8 + 2);
        x.order(153, 0, 0);
        Due.is("not ENABLED", x.count(7), 8);
        Due.is("ERASE of another again", beginsAt(x, 32, 64), 1);
    }

    private static void busyAtThatPut() {
        Due.by("what counts is whether it is BUSY at that PUT (BYTES are PUT all the same)");
        int[] table = {83, 70, 4, 2, 2, 1, 20, 182, 255, 255};
        for (int command : new int[] {3, 11, 90}) {
            int[] puts = {command, 1, 0};
            for (int busy = 0; busy <= 10; busy++) {
                FlashLanes x = Due.chip(4, 2, 2, 1, 20);
                Due.program(x, 0, 10, 4);
                Due.program(x, 4, 14, 4);
                Due.erase(x, 8);
                x.tick(20 - busy);
                x.select();
                for (int i = 0; i < 10; i++) {
                    int read = i - (command == 3 ? 2 : 3);
                    int a = read + 1;
                    int content = command == 90 ? table[Math.max(a, 0)] : a < 8 ? 10 + a : 255;
                    int due = i < busy || read < 0 ? 255 : content;
                    Due.is(command + ", PUT " + i + " with " + busy + " BUSY", x.put(puts[Math.min(i, 2)]), due);
                    x.tick(1);
                }
            }
        }
    }

    private static void busyWhenReleased() {
        Due.by("what counts is whether it is BUSY when RELEASED");
        FlashLanes x = new FlashLanes();
        Due.erase(x, 0);
        x.select();
        x.put(6);
        x.tick(4);
        Due.is("ENABLE, BUSY yet", x.release(), 1);
        x.select();
        x.put(6);
        x.tick(1);
        Due.is("ENABLE, done", x.release(), 2);
        x.send(32, 0, 0, 0);
        x.select();
        x.put(117);
        x.tick(4);
        Due.is("SUSPEND, BUSY yet", x.release(), 64);
        x.order(122, 0, 0);
        x.select();
        x.put(117);
        x.tick(1);
        Due.is("SUSPEND, done", x.release(), 0);
        Due.by("While it is BUSY: BYTES are PUT, it is RELEASED, CLOCKS count all the same");
        Due.erase(x, 0);
        int clocks = x.count(8);
        Due.is("select", x.select(), 1);
        Due.is("PUT", x.put(3), 255);
        Due.is("PUT", x.put(0), 255);
        Due.is("BYTES PUT", x.count(10), 2);
        Due.is("CLOCKS", x.count(8), clocks + 16);
        Due.is("release", x.release(), 1);
        Due.is("BYTES PUT", x.count(10), 0);
    }

    private static void statusBits() {
        Due.by("STATUS: 1 BUSY, 2 ENABLED, 4 times LEVEL, 64 SUSPENDED, 128 ERROR, together");
        FlashLanes x = new FlashLanes();
        Due.level(x, 7);
        Due.is("LEVEL", x.count(7), 28);
        Due.erase(x, 32);
        Due.is("ERROR, LEVEL", x.count(7), 128 + 28);
        Due.level(x, 6);
        Due.erase(x, 0);
        Due.is("BUSY, LEVEL", x.count(7), 1 + 24);
        x.order(117, 0, 0);
        Due.is("SUSPENDED, LEVEL", x.count(7), 64 + 24);
        Due.enable(x);
        Due.is("SUSPENDED, ENABLED, LEVEL", x.count(7), 64 + 24 + 2);
        x.order(122, 0, 0);
        Due.is("BUSY, ENABLED, LEVEL", x.count(7), 1 + 2 + 24);
        Due.is("by STATUS", x.order(5, 0, 1), 1 + 2 + 24);
        x.select();
        Due.is("by release", x.release(), 1 + 2 + 24);
        x.order(117, 0, 0);
        x.send(2, 0, 0, 1);
        Due.is("SUSPENDED, ERROR, LEVEL", x.count(7), 64 + 128 + 24);
        Due.enable(x);
        x.send(2, 63, 0, 1);
        Due.is("SUSPENDED, BUSY, LEVEL", x.count(7), 64 + 1 + 24);
    }

    private static void sectorLookedAt() {
        Due.by("Of a SECTOR: BYTES that are 255, all BYTES together");
        for (int[] shape : SHAPES) {
            FlashLanes x = edgesProgrammed(shape);
            int bytes = shape[0] * shape[1];
            Due.program(x, all(shape) - 2, 254, 1);
            for (int s = 0; s < shape[2]; s++) {
                int last = s == shape[2] - 1 ? 1 : 0;
                Due.is("255 of " + s, x.sector(s, 0), bytes - 2 - last);
                Due.is("together of " + s, x.sector(s, 1), (bytes - 2) * 255 - last);
            }
        }
        FlashLanes x = Due.chip(16, 8, 2, 1, 1);
        Due.is("all of the largest", x.sector(1, 1), 128 * 255);
        for (int a = 0; a < 128; a += 16) {
            for (int i = 0; i < 16; i++) {
                Due.program(x, a + i, 0, 1);
            }
        }
        Due.is("255 of none", x.sector(0, 0), 0);
        Due.is("none together", x.sector(0, 1), 0);
        Due.by("1 if it is being ERASED (BUSY or SUSPENDED; by ALL, too), else 0");
        FlashLanes y = new FlashLanes();
        Due.erase(y, 32);
        y.order(117, 0, 0);
        Due.enable(y);
        y.send(2, 0, 0, 1);
        for (int s = 0; s < 8; s++) {
            Due.is("PROGRAM while suspended, " + s, y.sector(s, 4), s == 1 ? 1 : 0);
        }
        y.tick(2);
        y.order(122, 0, 0);
        y.tick(5);
        begin(y, 199, 0);
        y.tick(39);
        for (int s = 0; s < 8; s++) {
            Due.is("ALL, " + s, y.sector(s, 4), 1);
        }
        y.tick(1);
        for (int s = 0; s < 8; s++) {
            Due.is("ALL done, " + s, y.sector(s, 4), 0);
        }
    }

    private static void begun() {
        Due.by("PROGRAMS, ERASES, ALLS that were begun");
        FlashLanes x = new FlashLanes();
        Due.is("none", x.count(13), 0);
        begin(x, 2, 0);
        Due.is("a PROGRAM, BUSY yet", x.count(13), 1);
        begin(x, 2, 0);
        Due.is("not while BUSY", x.count(13), 1);
        x.tick(2);
        begin(x, 32, 0);
        Due.is("an ERASE", x.count(13), 2);
        x.order(117, 0, 0);
        x.order(122, 0, 0);
        Due.is("resumed", x.count(13), 2);
        x.tick(5);
        begin(x, 199, 0);
        Due.is("an ALL", x.count(13), 3);
        x.tick(40);
        Due.level(x, 7);
        Due.is("a TELL", x.count(13), 3);
        begin(x, 2, 255);
        begin(x, 32, 255);
        begin(x, 199, 0);
        Due.is("refused", x.count(13), 3);
    }
}
