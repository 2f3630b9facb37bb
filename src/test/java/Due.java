/** Counts answers that are not as due, and helps to tell a text. */
final class Due {
    private static int wrong = 0;
    private static int asked = 0;

    private Due() {
    }

    static void is(String call, long got, long want) {
        asked++;
        if (got != want) {
            wrong++;
            System.out.println(call + " answered " + got + ", due is " + want);
        }
    }

    static void end() {
        System.out.println(asked + " answers, " + wrong + " not as due");
        if (wrong != 0) {
            System.exit(1);
        }
    }

    static void text(FlashLanes x, String text) {
        x.wipe();
        for (int i = 0; i < text.length(); i++) {
            x.write(text.charAt(i));
        }
    }

    static FlashLanes laid(String text) {
        FlashLanes x = new FlashLanes();
        text(x, text);
        if (x.lay() < 0) {
            is("lay of " + text, x.lay(), 0);
        }
        return x;
    }
}
