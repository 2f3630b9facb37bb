import java.util.Random;

/** Wild numbers in every state: nothing is thrown, and what is answered by a negative number changes nothing. */
public final class HardUseTest {
    private static final int[] WILD = {Integer.MIN_VALUE, Integer.MIN_VALUE + 1, -65536, -257, -256, -255, -5, -4,
        -3, -2, -1, 0, 1, 2, 3, 4, 5, 6, 7, 8, 9, 11, 13, 14, 15, 16, 31, 32, 40, 41, 49, 54, 57, 59, 90, 99, 100,
        102, 103, 116, 117, 122, 126, 127, 153, 199, 200, 254, 255, 256, 257, 65536, Integer.MAX_VALUE};
    private static final int METHODS = 17;

    private final Random dice;
    private final FlashLanes x = new FlashLanes();

    private HardUseTest(long seed) {
        dice = new Random(seed);
    }

    public static void main(String[] args) {
        for (int seed = 0; seed < 300; seed++) {
            new HardUseTest(seed).goOn(1500);
        }
        longSelection();
        Due.end();
    }

    private int wild() {
        return dice.nextInt(30) == 0 ? dice.nextInt() : WILD[dice.nextInt(WILD.length)];
    }

    private void goOn(int calls) {
        for (int i = 0; i < calls; i++) {
            boolean looked = dice.nextInt(8) == 0;
            long before = looked ? seen() : 0;
            int method = dice.nextInt(METHODS);
            int answer = call(method, wild(), wild(), wild(), dice.nextInt(4) == 0 ? wild() : dice.nextInt(4));
            if (looked && answer < 0) {
                Due.is("changed by method " + method + ", which answered " + answer, seen(), before);
            }
            Due.is("an answer below NONE", Math.min(answer, -4), -4);
        }
    }

    private int call(int method, int a, int b, int c, int n) {
        switch (method) {
            case 0: return x.write(dice.nextInt(3) == 0 ? a : "gtc;,0123456789".charAt(dice.nextInt(15)));
            case 1: return dice.nextInt(20) == 0 ? x.wipe() : 0;
            case 2: return x.fault();
            case 3: return x.lay();
            case 4: return x.select();
            case 5: return x.put(a);
            case 6: return x.release();
            case 7: return x.send(a, b, c, n);
            case 8: return x.order(a, c, n);
            case 9: return x.tick(a);
            case 10: return x.at(a);
            case 11: return x.sector(b, n);
            case 12: return x.table(a);
            case 13: return x.keep();
            case 14: return dice.nextInt(4) == 0 ? x.back() : x.unlike();
            case 15: return x.count(a);
            default: return dice.nextBoolean() ? x.order(6, 0, 0) : x.send(2, b & 255, c & 255, 1);
        }
    }

    /** All that can be looked at, in one number. */
    private long seen() {
        long all = x.fault();
        for (int k = 0; k < 14; k++) {
            all = all * 31 + x.count(k);
        }
        for (int a = 0; a < x.count(0); a++) {
            all = all * 31 + x.at(a);
        }
        for (int s = 0; s < x.count(3); s++) {
            for (int what = 0; what < 5; what++) {
                all = all * 31 + x.sector(s, what);
            }
        }
        return all * 31 + x.unlike();
    }

    /** A whole life of puts in one selection goes round the bytes and round the page. */
    private static void longSelection() {
        FlashLanes x = Due.laid("g16,2,3;c28;");
        x.order(6, 0, 0);
        x.select();
        x.put(2);
        x.put(90);
        for (int i = 0; i < 505; i++) {
            x.put(i & 255);
        }
        x.release();
        for (int i = 0; i < 16; i++) {
            int last = 504 - i;
            Due.is("page of a long program", x.at(80 + (10 + last) % 16), last & 255);
        }
        x.tick(2);
        x.select();
        x.put(3);
        x.put(95);
        for (int i = 0; i < 505; i++) {
            Due.is("a long read", x.put(0), x.at((95 + i) % 96));
        }
    }
}
