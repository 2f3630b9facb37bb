/** Counts answers that are not as due, and helps to tell a text. */
final class Due {
    private static int wrong = 0;
    private static int asked = 0;
    private static String sentence = "";

    private Due() {
    }

    /** The document's sentence that the answers from here on are about. */
    static void by(String words) {
        sentence = "\"" + words + "\": ";
    }

    static void is(String call, long got, long want) {
        asked++;
        if (got != want) {
            wrong++;
            System.out.println(sentence + call + " answered " + got + ", due is " + want);
        }
    }

    static void end() {
        System.out.println(asked + " answers, " + wrong + " not as due");
        if (wrong != 0) {
            System.exit(1);
        }
    }

    static void text(FlashLanes x, String text) {
        x.wipe();
        for (int i = 0; i < text.length(); i++) {
            x.write(text.charAt(i));
        }
    }

    static FlashLanes laid(String text) {
        FlashLanes x = new FlashLanes();
        text(x, text);
        if (x.lay() < 0) {
            is("lay of " + text, x.lay(), 0);
        }
        return x;
    }

    /** A chip of such parts, with the check that they want. */
    static FlashLanes chip(int p, int s, int n, int t, int e) {
        return laid("g" + p + "," + s + "," + n + ";t" + t + "," + e + ";c" + (p + s + n + t + e) + ";");
    }

    static void enable(FlashLanes x) {
        x.order(6, 0, 0);
    }

    /** A PROGRAM waited for. */
    static void program(FlashLanes x, int a, int v, int n) {
        enable(x);
        x.send(2, a, v, n);
        x.tick(9);
    }

    static void level(FlashLanes x, int level) {
        enable(x);
        x.order(1, level * 4, 1);
    }

    static void erase(FlashLanes x, int a) {
        enable(x);
        x.send(32, a, 0, 0);
    }
}
