/** For each promise of the document: ordinary calls, the edges it names, wrong numbers. */
public final class PromisesTest {
    private static final int BAD = -1, NO = -2, FULL = -3, NONE = -4;

    public static void main(String[] args) {
        newObject();
        write();
        wipe();
        faultOfParts();
        faultOfTicks();
        faultOfChecks();
        lay();
        layPutsBackAll();
        select();
        put();
        putReading();
        putWhileBusy();
        release();
        releaseCountsBytes();
        releaseReadyReset();
        releaseLanes();
        send();
        sendProgram();
        order();
        orderRefused();
        orderSuspended();
        tick();
        at();
        sector();
        table();
        keep();
        back();
        backTakesAll();
        backTakesErase();
        unlike();
        count();
        Due.end();
    }

    private static void enable(FlashLanes x) {
        x.order(6, 0, 0);
    }

    private static void program(FlashLanes x, int a, int v, int n) {
        enable(x);
        x.send(2, a, v, n);
        x.tick(9);
    }

    private static void newObject() {
        FlashLanes x = new FlashLanes();
        int[] counts = {256, 8, 4, 8, 2, 5, 1, 0, 0, 0, 0, 0, 0, 0};
        for (int i = 0; i < counts.length; i++) {
            Due.is("1: count(" + i + ")", x.count(i), counts[i]);
        }
        for (int s = 0; s < 8; s++) {
            Due.is("1: sector(s, 0)", x.sector(s, 0), 32);
            Due.is("1: sector(s, 2)", x.sector(s, 2), 0);
            Due.is("1: sector(s, 3)", x.sector(s, 3), 0);
            Due.is("1: sector(s, 4)", x.sector(s, 4), 0);
        }
        Due.is("1: release", x.release(), NO);
        Due.is("1: fault", x.fault(), NONE);
        x.order(49, 3, 1);
        x.order(153, 0, 0);
        Due.is("1: nothing was released ahead", x.count(6), 8);
    }

    private static void write() {
        FlashLanes x = new FlashLanes();
        Due.is("2: write(31)", x.write(31), BAD);
        Due.is("2: write(127)", x.write(127), BAD);
        Due.is("2: write(-1)", x.write(-1), BAD);
        Due.is("2: write(32)", x.write(32), 1);
        Due.is("2: write(126)", x.write(126), 2);
        for (int i = 3; i <= 200; i++) {
            Due.is("2: write", x.write('g'), i);
        }
        Due.is("2: write, full", x.write('g'), FULL);
        Due.is("2: write(0), full", x.write(0), BAD);
        Due.is("2: count(12)", x.count(12), 200);
        Due.is("2: fault of a full text", x.fault(), 0);
    }

    private static void wipe() {
        FlashLanes x = new FlashLanes();
        Due.is("3: wipe, empty", x.wipe(), 0);
        Due.text(x, "t1,1;");
        Due.is("3: wipe", x.wipe(), 5);
        Due.is("3: count(12)", x.count(12), 0);
        Due.is("3: wipe again", x.wipe(), 0);
        Due.is("3: write", x.write('x'), 1);
    }

    private static void fault(String text, int want) {
        FlashLanes x = new FlashLanes();
        Due.text(x, text);
        Due.is("4: fault of " + text, x.fault(), want);
        Due.is("4: again " + text, x.fault(), want);
        Due.is("4: text stays", x.count(12), text.length());
    }

    private static void faultOfParts() {
        for (int p = 0; p <= 17; p++) {
            for (int s = 0; s <= 17; s++) {
                for (int n = 0; n <= 17; n++) {
                    boolean can = (p == 4 || p == 8 || p == 16) && (s == 2 || s == 4 || s == 8)
                            && n >= 2 && n <= 8 && p * s * n <= 256;
                    FlashLanes x = new FlashLanes();
                    Due.text(x, "t1,1;g" + p + "," + s + "," + n + ";");
                    Due.is("4: g" + p + "," + s + "," + n, x.fault(), can ? NONE : 5);
                }
            }
        }
        fault("g8,4,8", 0);
        fault("g08,04,08;", NONE);
        fault("g008,4,8;", 0);
        fault("g8,4;", 0);
        fault("g8,4,;", 0);
        fault("g,4,8;", 0);
        fault("g8;4,8;", 0);
        fault("g8,4,8,;", 0);
        fault("g8,4,8;;", 7);
        fault("g8,4,8; ", 7);
        fault("g 8,4,8;", 0);
        fault("G8,4,8;", 0);
        fault(";", 0);
        fault("x", 0);
        fault("g", 0);
        fault("g8,4,8;g8,4,9;g8,4,8;", 7);
        fault("g4,2,2;g16,8,2;g16,2,8;", NONE);
    }

    private static void faultOfTicks() {
        for (int t = 0; t <= 11; t++) {
            for (int e = 0; e <= 22; e++) {
                fault("t" + t + "," + e + ";", t >= 1 && t <= 9 && e >= 1 && e <= 20 ? NONE : 0);
            }
        }
        fault("t09,01;", NONE);
        fault("t1,020;", 0);
        fault("t1;", 0);
        fault("t,1;", 0);
        fault("t1,;", 0);
        fault("t1,1", 0);
        fault("t-1,1;", 0);
        fault("t1,1;t0,1;", 5);
    }

    private static void faultOfChecks() {
        for (int c = 0; c <= 99; c++) {
            fault("c" + c + ";", c == 27 ? NONE : 0);
        }
        fault("c", 0);
        fault("c;", 0);
        fault("c27", 0);
        fault("c027;", 0);
        fault("c27;c27;", 4);
        fault("c27;x", 4);
        fault("c27;;", 4);
        fault("c27;g8,4,8;", 4);
        fault("c27;t2,5;", 4);
        fault("g4,4,8;c27;", 7);
        fault("g4,4,8;c23;", NONE);
        fault("t3,5;c28;", NONE);
        fault("t3,5;t4,6;c30;", NONE);
        fault("g4,2,2;g16,4,4;t9,20;c53;", NONE);
        fault("c28;x", 0);
        FlashLanes x = new FlashLanes();
        Due.text(x, "g8,4,8;c27;");
        Due.text(x, "g8,4,8");
        Due.is("4: letters wiped do not count", x.fault(), 0);
        Due.text(x, "t2,5");
        Due.is("4: letters wiped do not count", x.fault(), 0);
    }

    private static void lay() {
        FlashLanes x = new FlashLanes();
        Due.is("5: lay, empty", x.lay(), NO);
        Due.text(x, "g16,2,3;");
        Due.is("5: lay without check", x.lay(), NO);
        Due.is("5: nothing changed", x.count(1), 8);
        Due.text(x, "g16,2,3;c28");
        Due.is("5: lay, fault", x.lay(), NO);
        Due.text(x, "g16,2,3;c28;t1,1;");
        Due.is("5: lay, check not last", x.lay(), NO);
        Due.text(x, "g16,2,3;c29;");
        Due.is("5: lay, wrong check", x.lay(), NO);
        Due.text(x, "g4,4,4;g16,2,3;c28;");
        Due.is("5: lay", x.lay(), 96);
        Due.is("5: text stays", x.count(12), 19);
        Due.is("5: P", x.count(1), 16);
        Due.is("5: S", x.count(2), 2);
        Due.is("5: N", x.count(3), 3);
        Due.is("5: T without", x.count(4), 2);
        Due.is("5: E without", x.count(5), 5);
        Due.text(x, "t9,1;t7,20;c47;");
        Due.is("5: lay, parts without", x.lay(), 256);
        Due.is("5: T", x.count(4), 7);
        Due.is("5: E", x.count(5), 20);
        Due.is("5: P without", x.count(1), 8);
    }

    /** Everything is made other than at first, then the same text is laid again. */
    private static void layPutsBackAll() {
        FlashLanes x = new FlashLanes();
        Due.text(x, "c27;");
        program(x, 100, 0, 8);
        x.keep();
        x.order(49, 1, 1);
        x.send(54, 3, 0, 0);
        enable(x);
        x.order(1, 12, 1);
        enable(x);
        x.send(32, 99, 0, 0);
        x.order(117, 0, 0);
        enable(x);
        x.send(2, 99, 0, 1);
        x.select();
        x.put(102);
        Due.is("5: status ahead", x.count(7), 192 + 12);
        Due.is("5: lay", x.lay(), 256);
        int[] counts = {256, 8, 4, 8, 2, 5, 1, 0, 0, 0, 0, 0, 4, 0};
        for (int i = 0; i < counts.length; i++) {
            Due.is("5: count(" + i + ") then", x.count(i), counts[i]);
        }
        for (int s = 0; s < 8; s++) {
            Due.is("5: blank", x.sector(s, 0), 32);
            Due.is("5: not locked", x.sector(s, 2), 0);
            Due.is("5: not erased", x.sector(s, 4), 0);
        }
        Due.is("5: not selected", x.put(0), NO);
        Due.is("5: nothing kept", x.back(), NO);
        enable(x);
        x.order(199, 0, 0);
        x.lay();
        Due.is("5: not busy", x.tick(1), 0);
        enable(x);
        x.lay();
        Due.is("5: not enabled", x.count(7), 0);
    }

    private static void select() {
        FlashLanes x = new FlashLanes();
        Due.is("6: select", x.select(), 1);
        Due.is("6: select, is", x.select(), NO);
        x.release();
        int[] lanes = {1, 2, 4, 8};
        for (int i = 0; i < 4; i++) {
            x.order(49, i, 1);
            Due.is("6: select", x.select(), lanes[i]);
            Due.is("6: put anew", x.count(10), 0);
            x.put(3);
            x.put(4);
            Due.is("6: two put", x.count(10), 2);
            Due.is("6: select, is", x.select(), NO);
            Due.is("6: two put still", x.count(10), 2);
            x.release();
            Due.is("6: none put", x.count(10), 0);
        }
    }

    private static void put() {
        FlashLanes x = new FlashLanes();
        Due.is("7: put, not selected", x.put(0), NO);
        Due.is("7: put(-1)", x.put(-1), BAD);
        Due.is("7: put(256)", x.put(256), BAD);
        x.select();
        Due.is("7: put(256), selected", x.put(256), BAD);
        Due.is("7: put(-1), selected", x.put(-1), BAD);
        Due.is("7: none put", x.count(10), 0);
        Due.is("7: no clocks", x.count(8), 0);
        Due.is("7: put(255)", x.put(255), 255);
        Due.is("7: put(0)", x.put(0), 255);
        Due.is("7: clocks", x.count(8), 16);
        x.release();
        int clocks = 16;
        for (int i = 3; i >= 0; i--) {
            x.order(49, i, 1);
            clocks = x.count(8);
            x.select();
            x.put(7);
            Due.is("7: clocks by lanes", x.count(8) - clocks, 8 >> i);
            x.release();
            Due.is("7: no clocks for release", x.count(8) - clocks, 8 >> i);
        }
    }

    private static void putReading() {
        FlashLanes x = Due.laid("g4,2,2;c15;");
        program(x, 12, 10, 4);
        program(x, 0, 20, 4);
        x.select();
        int[] puts = {3, 30, 0, 0, 0, 0, 0};
        int[] answers = {255, 255, 12, 13, 20, 21, 22};
        for (int i = 0; i < puts.length; i++) {
            Due.is("7: READ " + i, x.put(puts[i]), answers[i]);
        }
        x.release();
        x.select();
        int[] fast = {11, 31, 9, 0, 0, 0};
        int[] due = {255, 255, 255, 13, 20, 21};
        for (int i = 0; i < fast.length; i++) {
            Due.is("7: FAST " + i, x.put(fast[i]), due[i]);
        }
        x.release();
        x.select();
        int[] table = {90, 5, 0, 0, 0, 0, 0};
        int[] told = {255, 255, 255, 2, 5, 168, 255};
        for (int i = 0; i < table.length; i++) {
            Due.is("7: TABLE " + i, x.put(table[i]), told[i]);
        }
        x.release();
        Due.is("7: TABLE, not modulo", x.send(90, 16, 0, 2), 255);
        Due.is("7: TABLE, from 0", x.send(90, 0, 0, 2), 83);
        Due.is("7: STATUS itself", x.order(5, 0, 0), 255);
        Due.is("7: STATUS at the first", x.order(5, 0, 1), 0);
        Due.is("7: another", x.send(4, 0, 0, 3), 255);
    }

    private static void putWhileBusy() {
        FlashLanes x = new FlashLanes();
        program(x, 0, 10, 8);
        enable(x);
        x.send(2, 8, 0, 1);
        x.select();
        Due.is("7: READ", x.put(3), 255);
        Due.is("7: READ", x.put(0), 255);
        Due.is("7: READ, busy", x.put(0), 255);
        x.tick(1);
        Due.is("7: READ, busy", x.put(0), 255);
        x.tick(1);
        Due.is("7: READ, not busy any more", x.put(0), 12);
        x.release();
        enable(x);
        x.send(32, 100, 0, 0);
        Due.is("7: TABLE, busy", x.send(90, 0, 0, 2), 255);
        Due.is("7: FAST, busy", x.send(11, 0, 0, 2), 255);
        Due.is("7: READ, busy", x.send(3, 0, 0, 1), 255);
        x.select();
        x.put(5);
        Due.is("7: STATUS, busy", x.put(0), 1);
        x.tick(5);
        Due.is("7: STATUS then", x.put(0), 0);
        int clocks = x.count(8);
        x.release();
        enable(x);
        x.order(199, 0, 0);
        x.order(77, 0, 5);
        Due.is("7: clocks, busy", x.count(8), clocks + 8 + 8 + 48);
    }

    private static void release() {
        FlashLanes x = new FlashLanes();
        Due.is("8: release, not selected", x.release(), NO);
        x.select();
        Due.is("8: release, none put", x.release(), 0);
        Due.is("8: release again", x.release(), NO);
        x.select();
        x.put(6);
        Due.is("8: not enabled yet", x.count(7), 0);
        Due.is("8: release of ENABLE", x.release(), 2);
        x.select();
        x.put(1);
        x.put(255);
        Due.is("8: release of TELL", x.release(), 28);
        enable(x);
        x.select();
        x.put(1);
        x.put(35);
        Due.is("8: TELL, modulo 8", x.release(), 0);
        enable(x);
        x.select();
        x.put(2);
        x.put(0);
        x.put(0);
        Due.is("8: not in it yet", x.at(0), 255);
        Due.is("8: release of PROGRAM", x.release(), 1);
        Due.is("8: at once", x.at(0), 0);
        x.select();
        x.put(6);
        x.tick(2);
        Due.is("8: busy counts when released", x.release(), 2);
        x.select();
        x.put(4);
        Due.is("8: release of DISABLE", x.release(), 0);
    }

    /** Each command with a byte too few or too many does nothing at all. */
    private static void releaseCountsBytes() {
        FlashLanes x = new FlashLanes();
        x.order(6, 0, 1);
        Due.is("8: ENABLE with a byte", x.count(7), 0);
        enable(x);
        x.order(4, 0, 1);
        Due.is("8: DISABLE with a byte", x.count(7), 2);
        x.order(1, 4, 0);
        x.order(1, 4, 2);
        x.send(2, 0, 0, 0);
        x.order(2, 0, 0);
        x.order(32, 0, 0);
        x.send(32, 0, 0, 1);
        x.order(199, 0, 1);
        Due.is("8: still enabled", x.count(7), 2);
        Due.is("8: none begun", x.count(13), 0);
        x.order(49, 1, 0);
        x.order(49, 1, 2);
        x.order(49, 4, 1);
        x.order(49, 255, 1);
        Due.is("8: LANES stay", x.count(6), 1);
        x.order(54, 0, 0);
        x.send(54, 0, 0, 1);
        Due.is("8: LOCK", x.sector(0, 2), 0);
        x.send(54, 0, 0, 0);
        Due.is("8: LOCK", x.sector(0, 2), 1);
        x.order(57, 0, 0);
        x.send(57, 0, 0, 1);
        Due.is("8: FREE", x.sector(0, 2), 1);
        x.send(57, 31, 0, 0);
        Due.is("8: FREE", x.sector(0, 2), 0);
        x.send(32, 0, 0, 0);
        x.tick(1);
        x.order(117, 0, 1);
        Due.is("8: SUSPEND with a byte", x.count(7), 1);
        x.order(117, 0, 0);
        x.order(122, 0, 1);
        Due.is("8: RESUME with a byte", x.count(7), 64);
        x.order(122, 0, 0);
        Due.is("8: RESUME", x.count(9), 4);
    }

    private static void ready(String how, boolean due, FlashLanes x) {
        x.order(153, 0, 0);
        Due.is("8: RESET, " + how, x.count(6), due ? 1 : 4);
        x.order(49, 2, 1);
    }

    private static void releaseReadyReset() {
        FlashLanes x = new FlashLanes();
        x.order(49, 2, 1);
        ready("no READY", false, x);
        x.order(102, 0, 0);
        ready("READY", true, x);
        x.order(102, 0, 1);
        ready("READY with a byte", false, x);
        x.order(102, 0, 0);
        x.order(153, 0, 1);
        ready("RESET with a byte between", false, x);
        x.order(102, 0, 0);
        x.order(200, 0, 0);
        ready("another between", false, x);
        x.order(102, 0, 0);
        x.select();
        x.release();
        ready("none put between", false, x);
        x.order(102, 0, 0);
        x.order(102, 0, 0);
        ready("READY twice", true, x);
        x.order(102, 0, 0);
        x.tick(3);
        ready("ticks between", true, x);
        enable(x);
        x.send(2, 0, 1, 1);
        x.order(102, 0, 0);
        x.tick(2);
        ready("READY while busy", false, x);
        x.send(54, 0, 0, 0);
        enable(x);
        x.order(1, 4, 1);
        enable(x);
        x.send(32, 64, 0, 0);
        x.order(117, 0, 0);
        enable(x);
        x.send(32, 0, 0, 0);
        Due.is("8: error ahead", x.count(7), 64 + 128 + 4);
        x.order(102, 0, 0);
        x.order(153, 0, 0);
        Due.is("8: put back, LEVEL stays", x.count(7), 4);
        Due.is("8: LOCKED stays", x.sector(0, 2), 1);
        Due.is("8: nothing left", x.count(9), 0);
        enable(x);
        x.order(102, 0, 0);
        x.order(153, 0, 0);
        Due.is("8: not enabled", x.count(7), 4);
    }

    private static void releaseLanes() {
        FlashLanes x = new FlashLanes();
        int[] lanes = {1, 2, 4, 8};
        for (int from = 0; from < 4; from++) {
            for (int to = 0; to < 4; to++) {
                x.order(49, from, 1);
                x.order(49, to, 1);
                Due.is("8: LANES", x.count(6), lanes[to]);
            }
        }
        enable(x);
        x.send(2, 0, 1, 1);
        x.order(49, 0, 1);
        Due.is("8: LANES, busy", x.count(6), 8);
        x.send(54, 0, 0, 0);
        Due.is("8: LOCK, busy", x.sector(0, 2), 0);
        enable(x);
        Due.is("8: ENABLE, busy", x.count(7), 1);
    }

    private static void send() {
        FlashLanes x = new FlashLanes();
        Due.is("9: command -1", x.send(-1, 0, 0, 0), BAD);
        Due.is("9: command 256", x.send(256, 0, 0, 0), BAD);
        Due.is("9: address -1", x.send(0, -1, 0, 0), BAD);
        Due.is("9: address 256", x.send(0, 256, 0, 0), BAD);
        Due.is("9: v -1", x.send(0, 0, -1, 0), BAD);
        Due.is("9: v 256", x.send(0, 0, 256, 0), BAD);
        Due.is("9: n -1", x.send(0, 0, 0, -1), BAD);
        Due.is("9: n 41", x.send(0, 0, 0, 41), BAD);
        Due.is("9: nothing put", x.count(8), 0);
        Due.is("9: n 40", x.send(255, 255, 255, 40), 255);
        Due.is("9: clocks", x.count(8), 42 * 8);
        Due.is("9: released", x.release(), NO);
        x.select();
        Due.is("9: selected", x.send(3, 0, 0, 0), NO);
        Due.is("9: selected, BAD", x.send(3, 0, 0, 41), BAD);
        Due.is("9: none put", x.count(10), 0);
        x.release();
        Due.is("9: STATUS", x.send(5, 0, 0, 0), 0);
        x.send(49, 3, 0, 0);
        Due.is("9: the address is a byte", x.count(6), 8);
    }

    private static void sendProgram() {
        FlashLanes x = Due.laid("g4,2,3;c16;");
        program(x, 5, 254, 3);
        Due.is("9: first", x.at(5), 254);
        Due.is("9: next", x.at(6), 255);
        Due.is("9: modulo 256", x.at(7), 0);
        Due.is("9: page ahead", x.at(4), 255);
        program(x, 24 + 10, 16, 6);
        int[] page = {18, 19, 20, 21};
        for (int i = 0; i < 4; i++) {
            Due.is("9: round the page", x.at(8 + i), page[i]);
        }
        program(x, 9, 5, 1);
        Due.is("9: ones alone that both have", x.at(9), 19 & 5);
        program(x, 12, 0, 40);
        for (int i = 0; i < 4; i++) {
            Due.is("9: the last counts alone", x.at(12 + i), 36 + i);
        }
        Due.is("9: page behind", x.at(16), 255);
        Due.is("9: begun", x.count(13), 4);
        x.send(2, 16, 0, 1);
        Due.is("9: not enabled", x.at(16), 255);
        Due.is("9: no error", x.count(7), 0);
        FlashLanes y = Due.laid("g16,2,8;c33;");
        program(y, 250, 1, 8);
        Due.is("9: page of 16", y.at(255), 6);
        Due.is("9: page of 16", y.at(240), 7);
        Due.is("9: page of 16", y.at(249), 255);
    }

    private static void order() {
        FlashLanes x = new FlashLanes();
        Due.is("10: command -1", x.order(-1, 0, 0), BAD);
        Due.is("10: command 256", x.order(256, 0, 0), BAD);
        Due.is("10: v -1", x.order(0, -1, 0), BAD);
        Due.is("10: v 256", x.order(0, 256, 0), BAD);
        Due.is("10: n -1", x.order(0, 0, -1), BAD);
        Due.is("10: n 41", x.order(0, 0, 41), BAD);
        Due.is("10: nothing put", x.count(8), 0);
        Due.is("10: n 40", x.order(255, 255, 40), 255);
        Due.is("10: clocks", x.count(8), 41 * 8);
        x.select();
        Due.is("10: selected", x.order(6, 0, 0), NO);
        Due.is("10: selected, BAD", x.order(6, 0, 41), BAD);
        Due.is("10: release", x.release(), 0);
        enable(x);
        x.order(2, 20, 3);
        Due.is("10: the first is the address", x.at(20), 21);
        Due.is("10: then", x.at(21), 22);
        x.tick(2);
        Due.is("10: READ", x.order(3, 20, 3), 22);
    }

    private static int refused(FlashLanes x, int command, int address, int n) {
        enable(x);
        if (command == 199) {
            x.order(199, 0, 0);
        } else {
            x.send(command, address, 0, n);
        }
        int status = x.count(7) & 131;
        x.tick(99);
        return status;
    }

    private static void orderRefused() {
        FlashLanes x = new FlashLanes();
        x.send(54, 32, 0, 0);
        Due.is("10: PROGRAM, locked", refused(x, 2, 63, 1), 128);
        Due.is("10: nothing in it", x.at(63), 255);
        Due.is("10: PROGRAM beside", refused(x, 2, 64, 1), 1);
        Due.is("10: ERASE, locked", refused(x, 32, 32, 0), 128);
        Due.is("10: ERASE beside", refused(x, 32, 31, 0), 1);
        Due.is("10: ALL, one locked", refused(x, 199, 0, 0), 128);
        Due.is("10: begun", x.count(13), 2);
        x.send(57, 32, 0, 0);
        x.send(54, 0, 0, 0);
        Due.is("10: ALL, the first locked", refused(x, 199, 0, 0), 128);
        x.send(57, 0, 0, 0);
        Due.is("10: ALL", refused(x, 199, 0, 0), 1);
        enable(x);
        x.order(1, 4, 1);
        Due.is("10: PROGRAM, last one", refused(x, 2, 224, 1), 128);
        Due.is("10: PROGRAM ahead", refused(x, 2, 223, 1), 1);
        Due.is("10: ERASE, last one", refused(x, 32, 255, 0), 128);
        Due.is("10: ALL, last one", refused(x, 199, 0, 0), 128);
        x.order(1, 0, 1);
        Due.is("10: TELL, not enabled", x.count(7), 128 + 4);
        x.order(199, 0, 0);
        x.send(32, 0, 0, 0);
        Due.is("10: not enabled", x.count(7), 128 + 4);
        enable(x);
        Due.is("10: no error", x.count(7), 2 + 4);
    }

    private static void orderSuspended() {
        FlashLanes x = new FlashLanes();
        x.order(117, 0, 0);
        x.order(122, 0, 0);
        Due.is("10: nothing to suspend", x.count(7), 0);
        program(x, 40, 1, 2);
        enable(x);
        x.send(32, 40, 0, 0);
        x.tick(4);
        x.order(117, 0, 0);
        Due.is("10: suspended", x.count(7), 64);
        Due.is("10: one left", x.count(9), 1);
        Due.is("10: no ticks", x.tick(9), 0);
        Due.is("10: ERASE", refused(x, 32, 0, 0), 128);
        Due.is("10: ALL", refused(x, 199, 0, 0), 128);
        enable(x);
        x.order(1, 8, 1);
        Due.is("10: TELL", x.count(7), 128 + 64);
        Due.is("10: PROGRAM in it", refused(x, 2, 63, 1), 128);
        Due.is("10: PROGRAM beside", refused(x, 2, 64, 1), 1);
        Due.is("10: READ", x.send(3, 40, 0, 1), 1);
        enable(x);
        x.send(2, 65, 0, 1);
        x.order(117, 0, 0);
        Due.is("10: PROGRAM is not suspended", x.count(7), 65);
        x.tick(2);
        enable(x);
        x.order(122, 0, 0);
        Due.is("10: resumed, enabled still", x.count(7), 3);
        Due.is("10: the last tick", x.tick(9), 1);
        Due.is("10: erased", x.at(40), 255);
        Due.is("10: begun", x.count(13), 4);
        x.send(32, 64, 0, 0);
        x.tick(1);
        x.order(117, 0, 0);
        x.order(122, 0, 0);
        x.tick(1);
        x.order(117, 0, 0);
        Due.is("10: suspended twice", x.count(9), 3);
        x.order(102, 0, 0);
        x.order(153, 0, 0);
        x.order(122, 0, 0);
        Due.is("10: dropped", x.count(7), 0);
        Due.is("10: its bytes stay", x.at(65), 0);
    }

    private static void tick() {
        FlashLanes x = Due.laid("g4,2,3;t9,20;c38;");
        Due.is("11: tick(0)", x.tick(0), BAD);
        Due.is("11: tick(100)", x.tick(100), BAD);
        Due.is("11: tick(-1)", x.tick(-1), BAD);
        Due.is("11: idle", x.tick(99), 0);
        enable(x);
        x.send(2, 0, 0, 1);
        Due.is("11: PROGRAM", x.tick(8), 8);
        Due.is("11: busy", x.count(7), 1);
        Due.is("11: PROGRAM", x.tick(99), 1);
        enable(x);
        x.send(32, 0, 0, 0);
        Due.is("11: ERASE", x.tick(19), 19);
        Due.is("11: not erased yet", x.at(0), 0);
        Due.is("11: tick(100), busy", x.tick(100), BAD);
        Due.is("11: ERASE", x.tick(1), 1);
        Due.is("11: erased", x.at(0), 255);
        for (int a = 0; a < 24; a++) {
            program(x, a, 0, 1);
        }
        enable(x);
        x.send(32, 12, 0, 0);
        x.tick(20);
        for (int a = 0; a < 24; a++) {
            Due.is("11: ERASE, its sector alone: " + a, x.at(a), a >= 8 && a < 16 ? 255 : 0);
        }
        enable(x);
        x.order(199, 0, 0);
        Due.is("11: ALL", x.tick(59), 59);
        Due.is("11: not erased yet", x.at(23), 0);
        x.select();
        Due.is("11: ALL, selected", x.tick(2), 1);
        for (int a = 0; a < 24; a++) {
            Due.is("11: erased by ALL", x.at(a), 255);
        }
    }

    private static void at() {
        FlashLanes x = new FlashLanes();
        Due.is("12: at(-1)", x.at(-1), BAD);
        Due.is("12: at(256)", x.at(256), BAD);
        Due.is("12: at(255)", x.at(255), 255);
        program(x, 255, 7, 1);
        Due.is("12: at(255)", x.at(255), 7);
        FlashLanes y = Due.laid("g4,2,2;c15;");
        Due.is("12: at(15)", y.at(15), 255);
        Due.is("12: at(16)", y.at(16), BAD);
        FlashLanes z = Due.laid("g8,2,3;c20;");
        Due.is("12: at(47)", z.at(47), 255);
        Due.is("12: at(48)", z.at(48), BAD);
    }

    private static void sector() {
        FlashLanes x = Due.laid("g8,2,3;c20;");
        for (int what = 0; what <= 4; what++) {
            Due.is("13: s -1", x.sector(-1, what), BAD);
            Due.is("13: s 3", x.sector(3, what), BAD);
        }
        Due.is("13: what -1", x.sector(0, -1), BAD);
        Due.is("13: what 5", x.sector(0, 5), BAD);
        program(x, 14, 0, 3);
        Due.is("13: blanks", x.sector(0, 0), 13);
        Due.is("13: together", x.sector(0, 1), 13 * 255 + 3);
        Due.is("13: blanks beside", x.sector(1, 0), 16);
        Due.is("13: together beside", x.sector(1, 1), 16 * 255);
        for (int level = 0; level < 8; level++) {
            enable(x);
            x.order(1, level * 4 + 3, 1);
            for (int s = 0; s < 3; s++) {
                Due.is("13: guarded " + level, x.sector(s, 3), s + level >= 3 ? 1 : 0);
                Due.is("13: locked " + level, x.sector(s, 2), 0);
            }
        }
        enable(x);
        x.order(1, 0, 1);
        x.send(54, 64, 0, 0);
        Due.is("13: locked, modulo", x.sector(1, 2), 1);
        Due.is("13: guarded, modulo", x.sector(1, 3), 1);
        x.send(57, 16, 0, 0);
        Due.is("13: free", x.sector(1, 2), 0);
        enable(x);
        x.send(32, 32, 0, 0);
        Due.is("13: erased, busy", x.sector(2, 4), 1);
        Due.is("13: erased beside", x.sector(1, 4), 0);
        x.order(117, 0, 0);
        enable(x);
        x.send(2, 0, 0, 1);
        Due.is("13: erased, suspended", x.sector(2, 4), 1);
        Due.is("13: programmed", x.sector(0, 4), 0);
        x.tick(2);
        x.order(122, 0, 0);
        Due.is("13: erased, resumed", x.sector(2, 4), 1);
        x.tick(5);
        Due.is("13: done", x.sector(2, 4), 0);
        enable(x);
        x.order(199, 0, 0);
        for (int s = 0; s < 3; s++) {
            Due.is("13: by ALL", x.sector(s, 4), 1);
        }
        x.tick(15);
        Due.is("13: ALL done", x.sector(0, 4), 0);
    }

    private static void table() {
        FlashLanes x = Due.laid("g16,4,2;t9,20;c51;");
        int[] table = {83, 70, 16, 4, 2, 9, 20, 204};
        for (int k = 0; k < 8; k++) {
            Due.is("14: table(" + k + ")", x.table(k), table[k]);
            Due.is("14: TABLE " + k, x.send(90, k, 0, 2), table[k]);
        }
        Due.is("14: table(-1)", x.table(-1), BAD);
        Due.is("14: table(8)", x.table(8), BAD);
        Due.is("14: usual", new FlashLanes().table(7), 180);
    }

    private static void keep() {
        FlashLanes x = new FlashLanes();
        Due.is("15: keep", x.keep(), 1);
        Due.is("15: count(11)", x.count(11), 1);
        Due.is("15: keep", x.keep(), 2);
        Due.is("15: keep, full", x.keep(), FULL);
        Due.is("15: count(11)", x.count(11), 2);
        program(x, 0, 0, 1);
        Due.is("15: full keeps none", x.keep(), FULL);
        Due.is("15: unlike", x.unlike(), 1);
        x.back();
        Due.is("15: keep again", x.keep(), 2);
    }

    private static void back() {
        FlashLanes x = new FlashLanes();
        Due.is("16: back, none", x.back(), NO);
        program(x, 0, 3, 1);
        x.keep();
        program(x, 0, 2, 1);
        x.keep();
        program(x, 0, 0, 1);
        Due.is("16: back", x.back(), 1);
        Due.is("16: as kept last", x.at(0), 2);
        Due.is("16: begun", x.count(13), 2);
        Due.is("16: back", x.back(), 0);
        Due.is("16: as kept first", x.at(0), 3);
        Due.is("16: back, none left", x.back(), NO);
        Due.text(x, "c27;");
        x.keep();
        x.write('x');
        x.back();
        Due.is("16: the text stays", x.count(12), 5);
        x.wipe();
        Due.text(x, "c27;");
        x.keep();
        x.lay();
        Due.is("16: none behind lay", x.back(), NO);
    }

    /** Each part of what is kept is changed, taken back and looked at. */
    private static void backTakesAll() {
        FlashLanes x = new FlashLanes();
        x.send(54, 0, 0, 0);
        x.order(49, 1, 1);
        enable(x);
        x.order(1, 8, 1);
        enable(x);
        x.send(32, 64, 0, 0);
        x.tick(2);
        x.order(117, 0, 0);
        enable(x);
        x.send(2, 33, 15, 2);
        x.order(102, 0, 0);
        x.select();
        x.put(2);
        x.put(100);
        x.put(7);
        int[] before = new int[14];
        for (int i = 0; i < 14; i++) {
            before[i] = x.count(i);
        }
        x.keep();
        x.put(6);
        x.release();
        x.tick(2);
        x.send(57, 0, 0, 0);
        x.order(49, 3, 1);
        x.order(122, 0, 0);
        x.tick(99);
        enable(x);
        x.order(1, 0, 1);
        x.send(54, 32, 0, 0);
        enable(x);
        Due.is("16: back", x.back(), 0);
        for (int i = 0; i < 14; i++) {
            Due.is("16: count(" + i + ")", x.count(i), before[i]);
        }
        Due.is("16: locked", x.sector(0, 2), 1);
        Due.is("16: not locked", x.sector(1, 2), 0);
        Due.is("16: suspended", x.sector(2, 4), 1);
        Due.is("16: level", x.sector(6, 3), 1);
        Due.is("16: selected", x.select(), NO);
        x.tick(2);
        x.release();
        Due.is("16: not enabled", x.at(100), 255);
        enable(x);
        x.select();
        x.put(2);
        x.put(101);
        x.put(9);
        x.keep();
        x.put(1);
        x.release();
        x.back();
        x.put(14);
        x.release();
        Due.is("16: what was put stays", x.at(101), 9);
        Due.is("16: what was put then", x.at(102), 14);
        x.tick(2);
        x.order(102, 0, 0);
        x.keep();
        x.order(0, 0, 0);
        x.back();
        x.order(153, 0, 0);
        Due.is("16: readied", x.count(6), 1);
    }

    private static void backTakesErase() {
        FlashLanes x = new FlashLanes();
        program(x, 32, 0, 1);
        program(x, 96, 0, 1);
        enable(x);
        x.send(32, 96, 0, 0);
        x.tick(1);
        x.keep();
        x.tick(4);
        enable(x);
        x.send(32, 32, 0, 0);
        x.tick(2);
        x.back();
        Due.is("16: its sector", x.sector(3, 4), 1);
        Due.is("16: another's", x.sector(1, 4), 0);
        Due.is("16: left", x.tick(99), 4);
        Due.is("16: erased", x.at(96), 255);
        Due.is("16: not erased", x.at(32), 0);
        enable(x);
        x.send(32, 32, 0, 0);
        x.tick(3);
        x.order(117, 0, 0);
        enable(x);
        x.send(32, 0, 0, 0);
        x.keep();
        x.order(122, 0, 0);
        x.tick(1);
        x.order(117, 0, 0);
        enable(x);
        x.back();
        Due.is("16: error", x.count(7), 128 + 64);
        Due.is("16: left, suspended", x.count(9), 2);
        FlashLanes y = new FlashLanes();
        enable(y);
        y.select();
        y.put(2);
        y.put(0);
        for (int i = 0; i < 8; i++) {
            y.put(i);
        }
        y.keep();
        y.release();
        y.back();
        y.release();
        for (int i = 0; i < 8; i++) {
            Due.is("16: the whole page that was put", y.at(i), i);
        }
    }

    private static void unlike() {
        FlashLanes x = new FlashLanes();
        Due.is("17: none", x.unlike(), NO);
        x.keep();
        Due.is("17: alike", x.unlike(), 0);
        program(x, 248, 250, 8);
        Due.is("17: seven, for one was put 255", x.unlike(), 7);
        x.keep();
        Due.is("17: as kept last", x.unlike(), 0);
        program(x, 0, 1, 1);
        Due.is("17: one", x.unlike(), 1);
        x.back();
        Due.is("17: as kept first", x.unlike(), 7);
        x.back();
        Due.is("17: none left", x.unlike(), NO);
    }

    private static void count() {
        FlashLanes x = Due.laid("g4,8,3;t7,11;c33;");
        Due.is("18: count(-1)", x.count(-1), BAD);
        Due.is("18: count(14)", x.count(14), BAD);
        int[] counts = {96, 4, 8, 3, 7, 11, 1, 0, 0, 0, 0, 0, 17, 0};
        for (int i = 0; i < counts.length; i++) {
            Due.is("18: count(" + i + ")", x.count(i), counts[i]);
        }
        enable(x);
        x.send(32, 0, 0, 0);
        x.tick(1);
        Due.is("18: busy", x.count(9), 10);
        x.order(117, 0, 0);
        enable(x);
        x.send(2, 32, 0, 1);
        Due.is("18: busy ahead of suspended", x.count(9), 7);
        Due.is("18: status", x.count(7), 65);
        x.tick(7);
        Due.is("18: suspended", x.count(9), 10);
        Due.is("18: begun", x.count(13), 2);
        enable(x);
        x.order(199, 0, 0);
        Due.is("18: refused is not begun", x.count(13), 2);
        x.order(122, 0, 0);
        Due.is("18: resumed is not begun", x.count(13), 2);
        x.tick(10);
        enable(x);
        x.order(199, 0, 0);
        Due.is("18: ALL", x.count(9), 33);
        Due.is("18: begun", x.count(13), 3);
        x.select();
        for (int i = 1; i <= 60; i++) {
            x.put(0);
            Due.is("18: put", x.count(10), i);
        }
        FlashLanes y = new FlashLanes();
        for (int i = 0; i < 2976; i++) {
            y.send(0, 0, 0, 40);
        }
        y.order(0, 0, 7);
        Due.is("18: clocks, nearly round", y.count(8), 999936 + 64 - 1000000);
        y.order(0, 0, 0);
        Due.is("18: clocks, round", y.count(8), 8);
    }
}
