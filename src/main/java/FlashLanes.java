/**
 * A flash memory behind one, two, four or eight wires: commands are put in byte by byte, and what the
 * chip does with them, how long it is busy and what it refuses can be looked at from outside.
 */
public final class FlashLanes {
    public static final int BAD = -1, NO = -2, FULL = -3, NONE = -4;

    private static final int MOST_LETTERS = 200;
    private static final int MOST_KEPT = 2;
    private static final int MOST_SENT = 40;
    private static final int MOST_TICKS = 99;
    private static final int MOST_BYTES = 256;
    private static final int MOST_SECTORS = 8;
    private static final int MOST_IN_PAGE = 16;
    private static final int TABLE_LENGTH = 8;
    private static final int CLOCKS_ROUND = 1000000;

    /** An erased byte, and also what a chip answers that has nothing to say. */
    private static final int BLANK = 255;

    private static final int READ = 3;
    private static final int FAST = 11;
    private static final int TABLE = 90;
    private static final int STATUS = 5;
    private static final int ENABLE = 6;
    private static final int DISABLE = 4;
    private static final int TELL = 1;
    private static final int PROGRAM = 2;
    private static final int ERASE = 32;
    private static final int ALL = 199;
    private static final int SUSPEND = 117;
    private static final int RESUME = 122;
    private static final int LANES = 49;
    private static final int LOCK = 54;
    private static final int FREE = 57;
    private static final int READY = 102;
    private static final int RESET = 153;

    /** The work of a chip that is not busy, and the sector of one that has nothing suspended. */
    private static final int NOTHING = -1;

    private final Text text;
    private final Chip chip;
    private final Chip keptFirst;
    private final Chip keptSecond;
    private int kept;

    public FlashLanes() {
        text = new Text();
        chip = new Chip();
        // made once here and copied into, so that keeping makes no objects
        keptFirst = new Chip();
        keptSecond = new Chip();
        kept = 0;
    }

    public int write(int letter) {
        if (letter < 32 || letter > 126) {
            return BAD;
        }
        if (!text.append(letter)) {
            return FULL;
        }
        return text.length();
    }

    public int wipe() {
        int length = text.length();
        text.clear();
        return length;
    }

    public int fault() {
        text.examine();
        return text.faultPlace();
    }

    public int lay() {
        text.examine();
        if (!text.isChecked()) {
            return NO;
        }
        chip.layOut(text.told());
        kept = 0;
        return chip.all();
    }

    public int select() {
        if (chip.isSelected()) {
            return NO;
        }
        chip.open();
        return chip.lanes();
    }

    public int put(int v) {
        if (!isByte(v)) {
            return BAD;
        }
        if (!chip.isSelected()) {
            return NO;
        }
        return chip.accept(v);
    }

    public int release() {
        if (!chip.isSelected()) {
            return NO;
        }
        chip.close();
        return chip.status();
    }

    public int send(int command, int address, int v, int n) {
        if (!isByte(command) || !isByte(address) || !isByte(v) || n < 0 || n > MOST_SENT) {
            return BAD;
        }
        if (chip.isSelected()) {
            return NO;
        }
        chip.open();
        chip.accept(command);
        int answer = chip.accept(address);
        return closeBehind(answer, v, n);
    }

    public int order(int command, int v, int n) {
        if (!isByte(command) || !isByte(v) || n < 0 || n > MOST_SENT) {
            return BAD;
        }
        if (chip.isSelected()) {
            return NO;
        }
        chip.open();
        int answer = chip.accept(command);
        return closeBehind(answer, v, n);
    }

    public int tick(int n) {
        if (n < 1 || n > MOST_TICKS) {
            return BAD;
        }
        int busy = 0;
        for (int i = 0; i < n; i++) {
            if (chip.isBusy()) {
                busy++;
                chip.passTick();
            }
        }
        return busy;
    }

    public int at(int a) {
        if (a < 0 || a >= chip.all()) {
            return BAD;
        }
        return chip.byteAt(a);
    }

    public int sector(int s, int what) {
        if (s < 0 || s >= chip.shape().sectors()) {
            return BAD;
        }
        switch (what) {
            case 0:
                return chip.blanksIn(s);
            case 1:
                return chip.sumOf(s);
            case 2:
                return chip.isLocked(s) ? 1 : 0;
            case 3:
                return chip.isGuarded(s) ? 1 : 0;
            case 4:
                return chip.isBeingErased(s) ? 1 : 0;
            default:
                return BAD;
        }
    }

    public int table(int k) {
        if (k < 0 || k >= TABLE_LENGTH) {
            return BAD;
        }
        return chip.shape().tableByte(k);
    }

    public int keep() {
        if (kept >= MOST_KEPT) {
            return FULL;
        }
        kept++;
        lastKept().copyFrom(chip);
        return kept;
    }

    public int back() {
        if (kept <= 0) {
            return NO;
        }
        chip.copyFrom(lastKept());
        kept--;
        return kept;
    }

    public int unlike() {
        if (kept <= 0) {
            return NO;
        }
        return chip.bytesOtherThanIn(lastKept());
    }

    public int count(int what) {
        switch (what) {
            case 0:
                return chip.all();
            case 1:
                return chip.shape().pageBytes();
            case 2:
                return chip.shape().sectorPages();
            case 3:
                return chip.shape().sectors();
            case 4:
                return chip.shape().programTicks();
            case 5:
                return chip.shape().eraseTicks();
            case 6:
                return chip.lanes();
            case 7:
                return chip.status();
            case 8:
                return chip.clocks();
            case 9:
                return chip.ticksLeft();
            case 10:
                return chip.puts();
            case 11:
                return kept;
            case 12:
                return text.length();
            case 13:
                return chip.begun();
            default:
                return BAD;
        }
    }

    private static boolean isByte(int v) {
        return v >= 0 && v <= 255;
    }

    /** The remainder; a divisor that cannot be answers 0 in place of failing. */
    private static int remainder(int a, int divisor) {
        return divisor > 0 ? a % divisor : 0;
    }

    private static int quotient(int a, int divisor) {
        return divisor > 0 ? a / divisor : 0;
    }

    private Chip lastKept() {
        return kept >= MOST_KEPT ? keptSecond : keptFirst;
    }

    /** Puts n counted bytes and releases; the answer given is that of the put ahead, should n be 0. */
    private int closeBehind(int answer, int v, int n) {
        int last = answer;
        for (int i = 0; i < n; i++) {
            last = chip.accept((v + i) & 255);
        }
        chip.close();
        return last;
    }

    /** How a chip is divided and how long it takes: what a text tells. */
    private static final class Shape {
        private int pageBytes;
        private int sectorPages;
        private int sectors;
        private int programTicks;
        private int eraseTicks;

        Shape() {
            setUsual();
        }

        void setUsual() {
            pageBytes = 8;
            sectorPages = 4;
            sectors = 8;
            programTicks = 2;
            eraseTicks = 5;
        }

        boolean setParts(int p, int s, int n) {
            boolean pageCanBe = p == 4 || p == 8 || p == 16;
            boolean sectorCanBe = s == 2 || s == 4 || s == 8;
            boolean numberCanBe = n >= 2 && n <= MOST_SECTORS;
            if (!pageCanBe || !sectorCanBe || !numberCanBe || p * s * n > MOST_BYTES) {
                return false;
            }
            pageBytes = p;
            sectorPages = s;
            sectors = n;
            return true;
        }

        boolean setTicks(int t, int e) {
            if (t < 1 || t > 9 || e < 1 || e > 20) {
                return false;
            }
            programTicks = t;
            eraseTicks = e;
            return true;
        }

        void copyFrom(Shape other) {
            pageBytes = other.pageBytes;
            sectorPages = other.sectorPages;
            sectors = other.sectors;
            programTicks = other.programTicks;
            eraseTicks = other.eraseTicks;
        }

        int pageBytes() {
            return pageBytes;
        }

        int sectorPages() {
            return sectorPages;
        }

        int sectors() {
            return sectors;
        }

        int programTicks() {
            return programTicks;
        }

        int eraseTicks() {
            return eraseTicks;
        }

        int sectorBytes() {
            return pageBytes * sectorPages;
        }

        int all() {
            return pageBytes * sectorPages * sectors;
        }

        int together() {
            return pageBytes + sectorPages + sectors + programTicks + eraseTicks;
        }

        /** Behind the table's end the wires stay as they are without an answer. */
        int tableByte(int k) {
            switch (k) {
                case 0:
                    return 83;
                case 1:
                    return 70;
                case 2:
                    return pageBytes;
                case 3:
                    return sectorPages;
                case 4:
                    return sectors;
                case 5:
                    return programTicks;
                case 6:
                    return eraseTicks;
                case 7:
                    return (83 + 70 + together()) & 255;
                default:
                    return BLANK;
            }
        }
    }

    /** The text, and what it told when it was examined last. */
    private static final class Text {
        private final int[] letters;
        private int length;
        private final Shape told;
        private int place;
        private boolean checkSeen;
        private int faultPlace;

        Text() {
            letters = new int[MOST_LETTERS];
            length = 0;
            told = new Shape();
            place = 0;
            checkSeen = false;
            faultPlace = NONE;
        }

        int length() {
            return length;
        }

        void clear() {
            length = 0;
        }

        boolean append(int letter) {
            if (length < 0 || length >= letters.length) {
                return false;
            }
            letters[length] = letter;
            length++;
            return true;
        }

        int faultPlace() {
            return faultPlace;
        }

        /** A check with a fault behind it does not count. */
        boolean isChecked() {
            return checkSeen && faultPlace == NONE;
        }

        Shape told() {
            return told;
        }

        void examine() {
            told.setUsual();
            place = 0;
            checkSeen = false;
            faultPlace = NONE;
            // an item takes a letter at least, so there are no more items than letters
            for (int items = 0; items < MOST_LETTERS && place < length; items++) {
                int start = place;
                if (checkSeen || !readItem()) {
                    faultPlace = start;
                    return;
                }
            }
        }

        private boolean readItem() {
            switch (nextLetter()) {
                case 'g':
                    place++;
                    return readParts();
                case 't':
                    place++;
                    return readTicks();
                case 'c':
                    place++;
                    return readCheck();
                default:
                    return false;
            }
        }

        private boolean readParts() {
            int p = readNumber();
            if (!skip(',')) {
                return false;
            }
            int s = readNumber();
            if (!skip(',')) {
                return false;
            }
            int n = readNumber();
            return skip(';') && told.setParts(p, s, n);
        }

        private boolean readTicks() {
            int t = readNumber();
            if (!skip(',')) {
                return false;
            }
            int e = readNumber();
            return skip(';') && told.setTicks(t, e);
        }

        private boolean readCheck() {
            int c = readNumber();
            checkSeen = skip(';') && c == told.together() % 97;
            return checkSeen;
        }

        /** One or two figures; without any it is NONE, which no item can have. */
        private int readNumber() {
            if (!isFigure(nextLetter())) {
                return NONE;
            }
            int number = nextLetter() - '0';
            place++;
            if (isFigure(nextLetter())) {
                number = number * 10 + nextLetter() - '0';
                place++;
            }
            return number;
        }

        private boolean skip(int letter) {
            if (nextLetter() != letter) {
                return false;
            }
            place++;
            return true;
        }

        private int nextLetter() {
            if (place < 0 || place >= length || place >= letters.length) {
                return NONE;
            }
            return letters[place];
        }

        private static boolean isFigure(int letter) {
            return letter >= '0' && letter <= '9';
        }
    }

    /** What has come in by the wires since the chip was selected. */
    private static final class Wires {
        private static final int UNTOLD = -1;

        private boolean selected;
        private int puts;
        private int command;
        private int first;
        /** For each byte of a page the last one put for it: a program may go round its page many times. */
        private final int[] page;

        Wires() {
            page = new int[MOST_IN_PAGE];
            clear();
        }

        void clear() {
            selected = false;
            puts = 0;
            command = NOTHING;
            first = 0;
            for (int i = 0; i < page.length; i++) {
                page[i] = UNTOLD;
            }
        }

        void open() {
            clear();
            selected = true;
        }

        boolean isSelected() {
            return selected;
        }

        int puts() {
            return puts;
        }

        int command() {
            return command;
        }

        /** The byte behind the command: an address with most commands. */
        int first() {
            return first;
        }

        void take(int v, int pageBytes) {
            if (puts == 0) {
                command = v;
            } else if (puts == 1) {
                first = v;
            } else {
                setInPage(remainder(first + puts - 2, pageBytes), v);
            }
            puts++;
        }

        private void setInPage(int offset, int v) {
            if (offset >= 0 && offset < page.length) {
                page[offset] = v;
            }
        }

        /** What the byte at this place of the page may keep of its ones. */
        int maskAt(int offset) {
            if (offset < 0 || offset >= page.length || page[offset] == UNTOLD) {
                return BLANK;
            }
            return page[offset];
        }

        void copyFrom(Wires other) {
            selected = other.selected;
            puts = other.puts;
            command = other.command;
            first = other.first;
            for (int i = 0; i < page.length && i < other.page.length; i++) {
                page[i] = other.page[i];
            }
        }
    }

    /** All that is kept and taken back: the chip and the state of its wires. */
    private static final class Chip {
        private final Shape shape;
        private final Wires wires;
        private final int[] bytes;
        private final boolean[] locked;
        /** The lanes are 1, 2, 4 or 8: one shifted by this. */
        private int laneShift;
        private int level;
        private boolean enabled;
        private boolean error;
        /** PROGRAM, ERASE or ALL while busy, else NOTHING. */
        private int work;
        private int workSector;
        private int workLeft;
        private int suspendedSector;
        private int suspendedLeft;
        private int clocks;
        private int begun;
        /** The last release was for READY, as RESET wants it. */
        private boolean readied;

        Chip() {
            shape = new Shape();
            wires = new Wires();
            bytes = new int[MOST_BYTES];
            locked = new boolean[MOST_SECTORS];
            startAnew();
        }

        void layOut(Shape told) {
            shape.copyFrom(told);
            startAnew();
        }

        private void startAnew() {
            wires.clear();
            eraseFrom(0, bytes.length);
            for (int s = 0; s < locked.length; s++) {
                locked[s] = false;
            }
            laneShift = 0;
            level = 0;
            enabled = false;
            error = false;
            work = NOTHING;
            workSector = NOTHING;
            workLeft = 0;
            suspendedSector = NOTHING;
            suspendedLeft = 0;
            clocks = 0;
            begun = 0;
            readied = false;
        }

        void copyFrom(Chip other) {
            shape.copyFrom(other.shape);
            wires.copyFrom(other.wires);
            for (int a = 0; a < bytes.length && a < other.bytes.length; a++) {
                bytes[a] = other.bytes[a];
            }
            for (int s = 0; s < locked.length && s < other.locked.length; s++) {
                locked[s] = other.locked[s];
            }
            laneShift = other.laneShift;
            level = other.level;
            enabled = other.enabled;
            error = other.error;
            work = other.work;
            workSector = other.workSector;
            workLeft = other.workLeft;
            suspendedSector = other.suspendedSector;
            suspendedLeft = other.suspendedLeft;
            clocks = other.clocks;
            begun = other.begun;
            readied = other.readied;
        }

        Shape shape() {
            return shape;
        }

        int all() {
            return shape.all();
        }

        int lanes() {
            return 1 << laneShift;
        }

        int clocks() {
            return clocks;
        }

        int begun() {
            return begun;
        }

        int puts() {
            return wires.puts();
        }

        boolean isSelected() {
            return wires.isSelected();
        }

        boolean isBusy() {
            return work != NOTHING;
        }

        private boolean isSuspended() {
            return suspendedSector != NOTHING;
        }

        int ticksLeft() {
            return isBusy() ? workLeft : suspendedLeft;
        }

        int status() {
            int status = 4 * level;
            if (isBusy()) {
                status += 1;
            }
            if (enabled) {
                status += 2;
            }
            if (isSuspended()) {
                status += 64;
            }
            if (error) {
                status += 128;
            }
            return status;
        }

        int byteAt(int a) {
            return a >= 0 && a < bytes.length ? bytes[a] : BLANK;
        }

        int blanksIn(int s) {
            int blanks = 0;
            int start = s * shape.sectorBytes();
            for (int i = 0; i < shape.sectorBytes(); i++) {
                if (byteAt(start + i) == BLANK) {
                    blanks++;
                }
            }
            return blanks;
        }

        int sumOf(int s) {
            int sum = 0;
            int start = s * shape.sectorBytes();
            for (int i = 0; i < shape.sectorBytes(); i++) {
                sum += byteAt(start + i);
            }
            return sum;
        }

        int bytesOtherThanIn(Chip other) {
            int others = 0;
            for (int a = 0; a < all(); a++) {
                if (byteAt(a) != other.byteAt(a)) {
                    others++;
                }
            }
            return others;
        }

        boolean isLocked(int s) {
            return s >= 0 && s < locked.length && locked[s];
        }

        boolean isGuarded(int s) {
            return isLocked(s) || s >= shape.sectors() - level;
        }

        private boolean isAnyGuarded() {
            for (int s = 0; s < shape.sectors(); s++) {
                if (isLocked(s)) {
                    return true;
                }
            }
            return level > 0;
        }

        boolean isBeingErased(int s) {
            return work == ALL || (work == ERASE && workSector == s) || suspendedSector == s;
        }

        void open() {
            wires.open();
        }

        /** Takes a byte in and tells what comes out meanwhile. */
        int accept(int v) {
            int answer = answerToNext();
            wires.take(v, shape.pageBytes());
            clocks = (clocks + (8 >> laneShift)) % CLOCKS_ROUND;
            return answer;
        }

        private int answerToNext() {
            if (wires.puts() == 0) {
                return BLANK;
            }
            if (wires.command() == STATUS) {
                return status();
            }
            return isBusy() ? BLANK : contentForNext();
        }

        /** What is read goes on with every put, whether or not the chip was too busy to answer it. */
        private int contentForNext() {
            int puts = wires.puts();
            switch (wires.command()) {
                case READ:
                    return puts < 2 ? BLANK : byteAt(remainder(wires.first() + puts - 2, all()));
                case FAST:
                    return puts < 3 ? BLANK : byteAt(remainder(wires.first() + puts - 3, all()));
                case TABLE:
                    return puts < 3 ? BLANK : shape.tableByte(wires.first() + puts - 3);
                default:
                    return BLANK;
            }
        }

        void close() {
            boolean wasReadied = readied;
            readied = false;
            int behind = wires.puts() - 1;
            if (isBusy()) {
                if (behind == 0 && wires.command() == SUSPEND) {
                    suspend();
                }
            } else if (behind == 0) {
                obeyAlone(wasReadied);
            } else if (behind == 1) {
                obeyWithByte(wires.first());
            } else if (behind > 1 && wires.command() == PROGRAM) {
                beginProgram(remainder(wires.first(), all()));
            }
            wires.clear();
        }

        private void obeyAlone(boolean wasReadied) {
            switch (wires.command()) {
                case ENABLE:
                    enabled = true;
                    error = false;
                    break;
                case DISABLE:
                    enabled = false;
                    break;
                case ALL:
                    beginAll();
                    break;
                case RESUME:
                    resume();
                    break;
                case READY:
                    readied = true;
                    break;
                case RESET:
                    if (wasReadied) {
                        putBack();
                    }
                    break;
                default:
                    break;
            }
        }

        private void obeyWithByte(int v) {
            int s = quotient(remainder(v, all()), shape.sectorBytes());
            switch (wires.command()) {
                case TELL:
                    if (mayBegin(isSuspended())) {
                        level = v / 4 % 8;
                    }
                    break;
                case ERASE:
                    beginErase(s);
                    break;
                case LANES:
                    if (v <= 3) {
                        laneShift = v;
                    }
                    break;
                case LOCK:
                    setLocked(s, true);
                    break;
                case FREE:
                    setLocked(s, false);
                    break;
                default:
                    break;
            }
        }

        /** What wants the chip enabled uses that up, refused or not. */
        private boolean mayBegin(boolean refused) {
            if (!enabled) {
                return false;
            }
            enabled = false;
            if (refused) {
                error = true;
            }
            return !refused;
        }

        private void beginProgram(int a) {
            int s = quotient(a, shape.sectorBytes());
            if (!mayBegin(isGuarded(s) || suspendedSector == s)) {
                return;
            }
            int start = a - remainder(a, shape.pageBytes());
            for (int i = 0; i < shape.pageBytes(); i++) {
                setByte(start + i, byteAt(start + i) & wires.maskAt(i));
            }
            begin(PROGRAM, s, shape.programTicks());
        }

        private void beginErase(int s) {
            if (mayBegin(isGuarded(s) || isSuspended())) {
                begin(ERASE, s, shape.eraseTicks());
            }
        }

        private void beginAll() {
            if (mayBegin(isAnyGuarded() || isSuspended())) {
                begin(ALL, NOTHING, shape.eraseTicks() * shape.sectors());
            }
        }

        private void begin(int what, int s, int ticks) {
            work = what;
            workSector = s;
            workLeft = ticks;
            begun++;
        }

        private void suspend() {
            if (work != ERASE) {
                return;
            }
            suspendedSector = workSector;
            suspendedLeft = workLeft;
            fallIdle();
        }

        private void resume() {
            if (!isSuspended()) {
                return;
            }
            work = ERASE;
            workSector = suspendedSector;
            workLeft = suspendedLeft;
            dropSuspended();
        }

        private void fallIdle() {
            work = NOTHING;
            workSector = NOTHING;
            workLeft = 0;
        }

        private void dropSuspended() {
            suspendedSector = NOTHING;
            suspendedLeft = 0;
        }

        private void putBack() {
            laneShift = 0;
            enabled = false;
            error = false;
            dropSuspended();
        }

        void passTick() {
            workLeft--;
            if (workLeft > 0) {
                return;
            }
            if (work == ERASE) {
                eraseFrom(workSector * shape.sectorBytes(), shape.sectorBytes());
            } else if (work == ALL) {
                eraseFrom(0, all());
            }
            fallIdle();
        }

        private void eraseFrom(int start, int length) {
            for (int i = 0; i < length; i++) {
                setByte(start + i, BLANK);
            }
        }

        private void setByte(int a, int v) {
            if (a >= 0 && a < bytes.length) {
                bytes[a] = v;
            }
        }

        private void setLocked(int s, boolean lock) {
            if (s >= 0 && s < locked.length) {
                locked[s] = lock;
            }
        }
    }
}
