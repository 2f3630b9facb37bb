import java.util.List;

/** THE TEXT: its bounds and those of its items, the first fault, what can be laid and what it lays. */
public final class TextEdgesTest {
    private static final int BAD = -1, NO = -2, FULL = -3, NONE = -4;
    private static final int[] PAGES = {4, 8, 16};
    private static final int[] SECTORS = {2, 4, 8};

    public static void main(String[] args) {
        letters();
        fullText();
        wipe();
        empty();
        pages();
        sectorPages();
        sectors();
        allAtMost();
        ticks();
        figures();
        withoutParts();
        lastOneCounts();
        anyOrder();
        checks();
        checkIsOfWhatIsAhead();
        checkIsLast();
        semicolonBehindEach();
        firstFault();
        eachLetterOther();
        laidShapes();
        laidAnew();
        laidWithKept();
        textStays();
        Due.end();
    }

    private static FlashLanes told(String text) {
        FlashLanes x = new FlashLanes();
        Due.text(x, text);
        return x;
    }

    /** A text with a fault cannot be laid; one without, only with a check. */
    private static void fault(String text, int want) {
        FlashLanes x = told(text);
        Due.is("fault of " + text, x.fault(), want);
        Due.is("fault again of " + text, x.fault(), want);
        if (want != NONE) {
            Due.is("lay of " + text, x.lay(), NO);
        }
    }

    private static void lays(String text, int want) {
        FlashLanes x = told(text);
        Due.is("fault of " + text, x.fault(), NONE);
        Due.is("lay of " + text, x.lay(), want);
    }

    private static void parts(FlashLanes x, int p, int s, int n, int t, int e) {
        Due.is("ALL", x.count(0), p * s * n);
        Due.is("P", x.count(1), p);
        Due.is("S", x.count(2), s);
        Due.is("N", x.count(3), n);
        Due.is("T", x.count(4), t);
        Due.is("E", x.count(5), e);
    }

    private static void letters() {
        Due.by("A letter (32 to 126, as in ASCII) comes behind THE TEXT: how long it is. BAD");
        FlashLanes x = new FlashLanes();
        int length = 0;
        for (int letter = -2; letter <= 260; letter++) {
            boolean can = letter >= 32 && letter <= 126;
            length += can ? 1 : 0;
            Due.is("write(" + letter + ")", x.write(letter), can ? length : BAD);
        }
        Due.is("count(12)", x.count(12), 95);
    }

    private static void fullText() {
        Due.by("THE TEXT is letters (200 at most)");
        FlashLanes x = new FlashLanes();
        String text = "t1,1;".repeat(38) + "t1,20;c41;";
        for (int i = 0; i < 200; i++) {
            Due.is("write", x.write(text.charAt(i)), i + 1);
        }
        Due.by("FULL: it has 200");
        Due.is("write, the 201st", x.write(';'), FULL);
        Due.is("write(31), the 201st", x.write(31), BAD);
        Due.is("count(12)", x.count(12), 200);
        Due.is("fault", x.fault(), NONE);
        Due.is("lay", x.lay(), 256);
        Due.is("E of the last item", x.count(5), 20);
        Due.is("wipe", x.wipe(), 200);
        Due.is("write, wiped", x.write('c'), 1);
        Due.by("FAULT: the place of the first letter, in a full text");
        fault("t1,1;".repeat(40), NONE);
        fault("t1,1;".repeat(39) + "t1,12", 195);
        fault("t1,1;".repeat(39) + "c22;x", 199);
        fault("t1,1;".repeat(39) + "c22;;", 199);
        fault("x".repeat(200), 0);
    }

    private static void wipe() {
        Due.by("THE TEXT is empty: how long it was");
        FlashLanes x = new FlashLanes();
        Due.is("wipe, empty", x.wipe(), 0);
        x.write('c');
        Due.is("wipe, one", x.wipe(), 1);
        Due.is("wipe again", x.wipe(), 0);
        Due.text(x, "c27;x");
        x.wipe();
        Due.text(x, "c27;");
        Due.is("a letter wiped is gone", x.fault(), NONE);
        Due.is("lay", x.lay(), 256);
        Due.text(x, "c2");
        Due.is("letters wiped are gone", x.fault(), 0);
        String whole = "g4,2,2;t9,20;c37;";
        for (int cut = 1; cut < whole.length(); cut++) {
            if (whole.charAt(cut - 1) != ';') {
                FlashLanes y = told(whole);
                Due.text(y, whole.substring(0, cut));
                Due.is("letters wiped are not behind the first " + cut, y.fault() < 0 ? 1 : 0, 0);
                Due.is("lay of the first " + cut, y.lay(), NO);
            }
        }
    }

    private static void empty() {
        Due.by("THE TEXT is empty: FAULT is NONE, LAID NO");
        FlashLanes x = new FlashLanes();
        Due.is("fault", x.fault(), NONE);
        Due.is("lay", x.lay(), NO);
        x.write('x');
        x.wipe();
        Due.is("fault, wiped", x.fault(), NONE);
        Due.is("lay, wiped", x.lay(), NO);
    }

    private static void pages() {
        Due.by("PAGES of P BYTES (4, 8 or 16)");
        for (int p = 0; p <= 99; p++) {
            fault("g" + p + ",2,2;", p == 4 || p == 8 || p == 16 ? NONE : 0);
        }
        fault("g100,2,2;", 0);
        fault("g-4,2,2;", 0);
    }

    private static void sectorPages() {
        Due.by("SECTORS of S PAGES (2, 4 or 8)");
        for (int s = 0; s <= 99; s++) {
            fault("g4," + s + ",2;", s == 2 || s == 4 || s == 8 ? NONE : 0);
        }
        fault("g4,100,2;", 0);
        fault("g4,-2,2;", 0);
    }

    private static void sectors() {
        Due.by("N SECTORS (2 to 8)");
        for (int n = 0; n <= 99; n++) {
            fault("g4,2," + n + ";", n >= 2 && n <= 8 ? NONE : 0);
        }
        fault("g4,2,100;", 0);
        fault("g4,2,-2;", 0);
    }

    private static void allAtMost() {
        Due.by("ALL being P times S times N (256 at most)");
        lays("g4,8,8;c27;", 256);
        lays("g8,4,8;c27;", 256);
        lays("g8,8,4;c27;", 256);
        lays("g16,2,8;c33;", 256);
        lays("g16,4,4;c31;", 256);
        lays("g16,8,2;c33;", 256);
        fault("g8,8,5;", 0);
        fault("g8,8,8;", 0);
        fault("g16,4,5;", 0);
        fault("g16,4,8;", 0);
        fault("g16,8,3;", 0);
        fault("g16,8,8;", 0);
        lays("g4,2,2;c15;", 16);
    }

    private static void ticks() {
        Due.by("A PROGRAM takes T TICKS (1 to 9)");
        for (int t = 0; t <= 99; t++) {
            fault("t" + t + ",5;", t >= 1 && t <= 9 ? NONE : 0);
        }
        fault("t100,5;", 0);
        fault("t-1,5;", 0);
        Due.by("an ERASE of a SECTOR E (1 to 20)");
        for (int e = 0; e <= 99; e++) {
            fault("t2," + e + ";", e >= 1 && e <= 20 ? NONE : 0);
        }
        fault("t2,100;", 0);
        fault("t2,-1;", 0);
    }

    private static void figures() {
        Due.by("numbers have one or two figures");
        fault("g4,2,2;", NONE);
        fault("g04,02,02;", NONE);
        fault("g16,2,2;", NONE);
        fault("g004,2,2;", 0);
        fault("g4,002,2;", 0);
        fault("g4,2,002;", 0);
        fault("g016,2,2;", 0);
        fault("g,2,2;", 0);
        fault("g4,,2;", 0);
        fault("g4,2,;", 0);
        fault("g+4,2,2;", 0);
        fault("g 4,2,2;", 0);
        fault("g4 ,2,2;", 0);
        fault("g4.0,2,2;", 0);
        fault("t1,1;", NONE);
        fault("t01,01;", NONE);
        fault("t001,1;", 0);
        fault("t1,001;", 0);
        fault("t1,020;", 0);
        fault("t,1;", 0);
        fault("t1,;", 0);
        fault("t,;", 0);
        fault("c;", 0);
        fault("c2;", 0);
        fault("c27;", NONE);
        fault("c027;", 0);
        fault("c124;", 0);
        Due.by("gP,S,N and tT,E: as many numbers as told");
        fault("g;", 0);
        fault("g4;", 0);
        fault("g4,2;", 0);
        fault("g4,2,2,2;", 0);
        fault("g4,2,2,;", 0);
        fault("t;", 0);
        fault("t1;", 0);
        fault("t1,1,1;", 0);
        fault("c27,27;", 0);
    }

    private static void withoutParts() {
        Due.by("(8, 4, 8 without), (2, 5 without)");
        FlashLanes x = told("c27;");
        Due.is("lay of a check alone", x.lay(), 256);
        parts(x, 8, 4, 8, 2, 5);
        Due.text(x, "t9,20;c49;");
        Due.is("lay without parts", x.lay(), 256);
        parts(x, 8, 4, 8, 9, 20);
        Due.text(x, "g4,2,2;c15;");
        Due.is("lay without ticks, behind another chip", x.lay(), 16);
        parts(x, 4, 2, 2, 2, 5);
        Due.text(x, "c27;");
        Due.is("lay without either, behind another chip", x.lay(), 256);
        parts(x, 8, 4, 8, 2, 5);
    }

    private static void lastOneCounts() {
        Due.by("of several the last one counts");
        FlashLanes x = told("g16,8,2;g4,2,3;t9,20;t1,1;g8,2,5;t3,4;c22;");
        Due.is("lay", x.lay(), 80);
        parts(x, 8, 2, 5, 3, 4);
        Due.by("such as can be: each of several");
        fault("g16,8,3;g4,2,2;c15;", 0);
        fault("g4,2,2;g16,8,3;g4,2,2;c15;", 7);
        fault("t0,1;t1,1;c22;", 0);
        fault("t1,1;t1,21;t1,1;c22;", 5);
    }

    /** Up to four items, each row of them there is: those of the other kind between change nothing. */
    private static void anyOrder() {
        Due.by("A TEXT is ITEMS one behind the other; without, or the last one counts");
        String[] items = {"g4,2,3;", "g16,8,2;", "t9,20;", "t1,3;"};
        int[][] told = {{4, 2, 3}, {16, 8, 2}, {9, 20}, {1, 3}};
        for (int length = 0; length <= 4; length++) {
            for (int row = 0; row < 1 << 2 * length; row++) {
                int[] g = {8, 4, 8};
                int[] t = {2, 5};
                StringBuilder text = new StringBuilder();
                for (int i = 0; i < length; i++) {
                    int item = row >> 2 * i & 3;
                    text.append(items[item]);
                    g = item < 2 ? told[item] : g;
                    t = item < 2 ? t : told[item];
                }
                int check = g[0] + g[1] + g[2] + t[0] + t[1];
                fault(text + "c" + (check + 1) + ";", text.length());
                FlashLanes x = told(text + "c" + check + ";");
                Due.is("lay of " + text, x.lay(), g[0] * g[1] * g[2]);
                parts(x, g[0], g[1], g[2], t[0], t[1]);
            }
        }
    }

    private static void checks() {
        Due.by("a check: P, S, N, T and E together modulo 97 are C");
        for (int c = 0; c <= 99; c++) {
            fault("g4,2,2;t1,1;c" + c + ";", c == 10 ? NONE : 12);
            fault("g16,8,2;t9,20;c" + c + ";", c == 55 ? NONE : 14);
            fault("c" + c + ";", c == 27 ? NONE : 0);
        }
        fault("g4,2,2;t1,1;c107;", 12);
        lays("g4,2,2;t1,1;c10;", 16);
        lays("g16,8,2;t9,20;c55;", 256);
    }

    private static void checkIsOfWhatIsAhead() {
        Due.by("as told ahead of it or without");
        fault("g4,2,2;c27;", 7);
        fault("c15;g4,2,2;", 0);
        fault("t3,5;c27;", 5);
        fault("c28;t3,5;", 0);
        fault("t3,5;c28;", NONE);
        fault("g16,8,2;g4,2,2;c33;", 15);
        fault("g16,8,2;g4,2,2;c15;", NONE);
    }

    private static void checkIsLast() {
        Due.by("the last ITEM; FAULT: the first ITEM that is behind a check");
        for (String behind : new String[] {"c27;", "g8,4,8;", "t2,5;", ";", " ", "x", "c", "g", "0", ",", "c27"}) {
            fault("c27;" + behind, 4);
            fault("g4,2,2;c15;" + behind, 11);
        }
        Due.by("LAID is a TEXT without FAULT whose last ITEM is a check (NO else)");
        for (String text : new String[] {"", "g4,2,2;", "t1,1;", "g4,2,2;t1,1;", "t1,1;".repeat(40)}) {
            FlashLanes x = told(text);
            Due.is("fault of " + text, x.fault(), NONE);
            Due.is("lay of " + text, x.lay(), NO);
            parts(x, 8, 4, 8, 2, 5);
        }
    }

    private static void semicolonBehindEach() {
        Due.by("A TEXT is ITEMS one behind the other, a ; behind each");
        String text = "g4,2,2;t9,20;c37;";
        int[] starts = {0, 7, 13};
        for (int cut = 0; cut <= text.length(); cut++) {
            boolean whole = cut == 0 || text.charAt(cut - 1) == ';';
            int start = cut > 13 ? 2 : cut > 7 ? 1 : 0;
            FlashLanes x = told(text.substring(0, cut));
            Due.is("fault of the first " + cut, x.fault(), whole ? NONE : starts[start]);
            Due.is("lay of the first " + cut, x.lay(), cut == text.length() ? 16 : NO);
        }
        fault(";", 0);
        fault(";c27;", 0);
        fault("g4,2,2;;c15;", 7);
        fault("g4,2,2 ;c15;", 0);
        fault("g4,2,2; c15;", 7);
        fault("g4,2,2t1,1;", 0);
        fault("g4,2,2,t1,1;", 0);
        fault("t1,1c22;", 0);
    }

    private static void firstFault() {
        Due.by("FAULT: the place (from 0 on) of the first letter of the first ITEM that is not so");
        fault("x;y;", 0);
        fault("t1,1;x;y;", 5);
        fault("t1,1;t1,1;t1,0;t1,1;t0,1;", 10);
        fault("t1,1;g8,4,8;t1,99;", 12);
        fault("t1,1;g8,4,80;t1,99;", 5);
        fault("c26;c27;", 0);
        fault("t1,1;c21;x", 5);
        for (int many = 0; many < 40; many++) {
            fault("t1,1;".repeat(many) + "t", many * 5);
        }
        Due.by("FAULT is of THE TEXT as it stands then");
        FlashLanes x = told("c27");
        Due.is("fault", x.fault(), 0);
        x.write(';');
        Due.is("fault, ended", x.fault(), NONE);
        x.write(';');
        Due.is("fault, one behind", x.fault(), 4);
        Due.is("lay, one behind", x.lay(), NO);
    }

    /** One letter of a text that is so is made each other letter; the model says what is left of it. */
    private static void eachLetterOther() {
        Due.by("ITEMS as told, letter by letter");
        String text = "g8,4,8;t2,5;c27;";
        for (int place = 0; place < text.length(); place++) {
            for (char letter = 32; letter <= 126; letter++) {
                String other = text.substring(0, place) + letter + text.substring(place + 1);
                Model model = new Model();
                for (char c : other.toCharArray()) {
                    model.write(c);
                }
                FlashLanes x = told(other);
                Due.is("fault of " + other, x.fault(), model.fault());
                Due.is("lay of " + other, x.lay(), model.lay());
            }
        }
    }

    private static void laidShapes() {
        Due.by("A CHIP has PAGES of P BYTES, SECTORS of S PAGES, N SECTORS, BYTES 0 to ALL less 1");
        for (int p : PAGES) {
            for (int s : SECTORS) {
                for (int n = 2; n <= 8; n++) {
                    if (p * s * n <= 256) {
                        laidShape(p, s, n, 1 + (p + s + n) % 9, 1 + (p * s + n) % 20);
                    }
                }
            }
        }
    }

    private static void laidShape(int p, int s, int n, int t, int e) {
        FlashLanes x = Due.chip(p, s, n, t, e);
        parts(x, p, s, n, t, e);
        Due.is("lay", x.lay(), p * s * n);
        for (int a = 0; a < p * s * n; a++) {
            Due.is("at(" + a + ")", x.at(a), 255);
        }
        Due.is("at(ALL)", x.at(p * s * n), BAD);
        Due.is("sector(N less 1, 0)", x.sector(n - 1, 0), p * s);
        Due.is("sector(N, 0)", x.sector(n, 0), BAD);
        int[] table = {83, 70, p, s, n, t, e, (83 + 70 + p + s + n + t + e) % 256};
        for (int k = 0; k < 8; k++) {
            Due.is("table(" + k + ")", x.table(k), table[k]);
        }
    }

    /** Whatever the scene was, a chip laid there is as one laid at first. */
    private static void laidAnew() {
        Due.by("LAID: all BYTES are 255, LANES 1, nothing is BUSY, .. RELEASED or is SELECTED");
        for (Scene scene : Scene.values()) {
            // a full text and a look at a large chip would be more than 512 calls
            for (String text : scene.full ? List.of("g4,2,3;c16;") : List.of("c27;", "g16,4,2;t9,1;c32;")) {
                Twins.areAlike(scene + ": lay of " + text, x -> {
                    scene.make.accept(x);
                    Due.text(x, text);
                    x.lay();
                }, x -> {
                    Due.text(x, text);
                    x.lay();
                });
            }
        }
        Due.by("at first g8,4,8;t2,5;c27;");
        Twins.areAlike("a new object", x -> {
            Due.text(x, "g8,4,8;t2,5;c27;");
            x.lay();
            x.wipe();
        }, x -> {
        });
    }

    private static void laidWithKept() {
        Due.by("LAID: ALL; nothing is KEPT any more");
        for (int kept = 0; kept <= 2; kept++) {
            FlashLanes x = told("c27");
            for (int i = 0; i < kept; i++) {
                x.keep();
            }
            Due.is("lay, refused", x.lay(), NO);
            Due.is("still kept", x.count(11), kept);
            x.write(';');
            Due.is("lay", x.lay(), 256);
            Due.is("count(11)", x.count(11), 0);
            Due.is("unlike()", x.unlike(), NO);
            Due.is("back()", x.back(), NO);
            Due.is("keep()", x.keep(), 1);
        }
    }

    private static void textStays() {
        Due.by("LAID, THE TEXT stays");
        FlashLanes x = told("g4,2,2;c15;");
        Due.is("lay", x.lay(), 16);
        Due.is("count(12)", x.count(12), 11);
        Due.is("fault", x.fault(), NONE);
        Due.is("lay again", x.lay(), 16);
        Due.is("write", x.write('x'), 12);
        Due.is("fault", x.fault(), 11);
    }
}
