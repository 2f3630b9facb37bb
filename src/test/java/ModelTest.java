import java.util.Random;

/** Runs of calls, the same ones every time, on the class and on the model: every answer is compared. */
public final class ModelTest {
    private static final int RUNS = 6000;
    private static final int CALLS = 512;
    private static final int[] COMMANDS = {3, 11, 90, 5, 6, 4, 1, 2, 32, 199, 117, 122, 49, 54, 57, 102, 153};
    private static final int[] PAGES = {4, 8, 16};
    private static final int[] SECTORS = {2, 4, 8};

    private final Random dice;
    private final FlashLanes x = new FlashLanes();
    private final Model model = new Model();
    private final StringBuilder told = new StringBuilder();
    private int calls = 0;

    private ModelTest(long seed) {
        dice = new Random(seed);
    }

    public static void main(String[] args) {
        for (int run = 0; run < RUNS; run++) {
            ModelTest test = new ModelTest(run);
            if (!test.goes()) {
                System.out.println("run " + run + ": " + test.told);
                System.exit(1);
            }
        }
        System.out.println(RUNS + " runs as in the model");
    }

    private boolean goes() {
        boolean texts = dice.nextInt(3) == 0;
        if (dice.nextInt(4) != 0 && !tellChip()) return false;
        while (calls < CALLS) {
            if (!step(texts)) return false;
        }
        return alike();
    }

    private boolean same(String call, int got, int want) {
        calls++;
        if (got == want) {
            told.append(call).append("; ");
            return true;
        }
        told.append(call).append(" answered ").append(got).append(", in the model ").append(want);
        return false;
    }

    private boolean writeAll(String text) {
        for (int i = 0; i < text.length(); i++) {
            int letter = text.charAt(i);
            if (!same("write(" + letter + ")", x.write(letter), model.write(letter))) return false;
        }
        return true;
    }

    private boolean tellChip() {
        if (dice.nextInt(3) > 0 && !same("wipe()", x.wipe(), model.wipe())) return false;
        int p = PAGES[dice.nextInt(3)];
        int s = SECTORS[dice.nextInt(3)];
        int n = 2 + dice.nextInt(7);
        int t = 1 + dice.nextInt(9);
        int e = 1 + dice.nextInt(20);
        String parts = "g" + p + "," + s + "," + n + ";";
        String ticks = "t" + t + "," + e + ";";
        String text = (dice.nextBoolean() ? parts + ticks : ticks + parts) + "c" + (p + s + n + t + e) + ";";
        if (dice.nextInt(5) == 0) text = "t1,1;" + text;
        if (dice.nextInt(4) == 0) {
            int cut = dice.nextInt(text.length());
            String other = "gtc;,0123456789 x".charAt(dice.nextInt(17)) + "";
            text = text.substring(0, cut) + (dice.nextBoolean() ? other : "")
                    + text.substring(cut + dice.nextInt(2));
        }
        return writeAll(text) && same("fault()", x.fault(), model.fault()) && same("lay()", x.lay(), model.lay());
    }

    private int command() {
        return dice.nextInt(12) == 0 ? dice.nextInt(258) - 1 : COMMANDS[dice.nextInt(COMMANDS.length)];
    }

    private int byteOrSo() {
        return dice.nextInt(40) == 0 ? dice.nextInt(300) - 20 : dice.nextInt(256);
    }

    private int many() {
        int how = dice.nextInt(10);
        return how < 4 ? 0 : how < 8 ? 1 + dice.nextInt(3) : dice.nextInt(44) - 1;
    }

    private boolean step(boolean texts) {
        switch (dice.nextInt(20)) {
            case 0:
            case 1:
                return order(6, 0, 0);
            case 2:
            case 3: {
                int[] longer = {2, 32, 2, 32, 199, 1};
                int command = longer[dice.nextInt(6)];
                if (!order(6, 0, 0)) return false;
                if (command == 199) return order(199, 0, 0);
                if (command == 1) return order(1, dice.nextInt(3) > 0 ? dice.nextInt(8) : byteOrSo(), 1);
                return send(command, byteOrSo(), byteOrSo(), command == 2 ? many() : 0);
            }
            case 4:
            case 5:
                return send(command(), byteOrSo(), byteOrSo(), many());
            case 6:
            case 7:
                return order(command(), dice.nextBoolean() ? dice.nextInt(5) : byteOrSo(), many());
            case 8:
                return byPuts();
            case 9:
            case 10: {
                int n = dice.nextInt(10) == 0 ? dice.nextInt(103) - 1 : 1 + dice.nextInt(6);
                return same("tick(" + n + ")", x.tick(n), model.tick(n));
            }
            case 11:
                return order(102, 0, 0) && order(153, 0, 0);
            case 12:
                return order(117, 0, 0) && look();
            case 13:
                return order(122, 0, 0) && look();
            case 14:
                return dice.nextBoolean() ? same("keep()", x.keep(), model.keep())
                        : dice.nextInt(3) > 0 ? same("unlike()", x.unlike(), model.unlike())
                        : same("back()", x.back(), model.back());
            case 15:
                return !texts || dice.nextInt(8) > 0 || tellChip();
            default:
                return look();
        }
    }

    private boolean byPuts() {
        if (!same("select()", x.select(), model.select())) return false;
        int command = command();
        if (!same("put(" + command + ")", x.put(command), model.put(command))) return false;
        int puts = many() % 12;
        for (int i = 0; i < puts; i++) {
            int v = byteOrSo();
            if (!same("put(" + v + ")", x.put(v), model.put(v))) return false;
            if (dice.nextInt(4) == 0 && !same("tick(1)", x.tick(1), model.tick(1))) return false;
            if (dice.nextInt(12) == 0 && !look()) return false;
        }
        return dice.nextInt(10) == 0 || same("release()", x.release(), model.release());
    }

    private boolean order(int command, int v, int n) {
        if (dice.nextInt(6) > 0 && !released()) return false;
        return same("order(" + command + ", " + v + ", " + n + ")", x.order(command, v, n),
                model.order(command, v, n));
    }

    private boolean send(int command, int address, int v, int n) {
        if (dice.nextInt(6) > 0 && !released()) return false;
        return same("send(" + command + ", " + address + ", " + v + ", " + n + ")",
                x.send(command, address, v, n), model.send(command, address, v, n));
    }

    /** So that a run does not stay selected, where every order would be answered by NO. */
    private boolean released() {
        boolean asked = model.count(10) > 0 || dice.nextInt(20) == 0;
        return !asked || same("release()", x.release(), model.release());
    }

    private boolean look() {
        int k = dice.nextInt(16) - 1;
        int s = dice.nextInt(10) - 1;
        int what = dice.nextInt(7) - 1;
        int a = dice.nextInt(260) - 2;
        switch (dice.nextInt(5)) {
            case 0:
                return same("at(" + a + ")", x.at(a), model.at(a));
            case 1:
                return same("table(" + k + ")", x.table(k), model.table(k));
            case 2:
                return same("sector(" + s + ", " + what + ")", x.sector(s, what), model.sector(s, what));
            default:
                return same("count(" + k + ")", x.count(k), model.count(k));
        }
    }

    private boolean alike() {
        for (int k = -1; k <= 14; k++) {
            if (!same("count(" + k + ")", x.count(k), model.count(k))) return false;
        }
        for (int a = -1; a <= 256; a++) {
            if (!same("at(" + a + ")", x.at(a), model.at(a))) return false;
        }
        for (int s = -1; s <= 8; s++) {
            for (int what = -1; what <= 5; what++) {
                if (!same("sector(" + s + ", " + what + ")", x.sector(s, what), model.sector(s, what))) return false;
            }
        }
        return true;
    }
}
