import java.util.ArrayDeque;
import java.util.ArrayList;
import java.util.Arrays;
import java.util.Collections;
import java.util.Deque;
import java.util.List;
import java.util.regex.Matcher;
import java.util.regex.Pattern;

/** The document once more, written in another way than the class: with lists, patterns and copies. */
final class Model {
    private static final int BAD = -1, NO = -2, FULL = -3, NONE = -4;
    private static final Pattern PARTS = Pattern.compile("g(\\d{1,2}),(\\d{1,2}),(\\d{1,2})");
    private static final Pattern TICKS = Pattern.compile("t(\\d{1,2}),(\\d{1,2})");
    private static final Pattern CHECK = Pattern.compile("c(\\d{1,2})");

    private static final class State {
        int[] shape = {8, 4, 8, 2, 5};
        int[] mem = new int[0];
        List<Integer> locked = new ArrayList<>();
        List<Integer> in = null;
        List<Integer> lastIn = null;
        int lanes = 1;
        int level = 0;
        boolean enabled = false;
        boolean error = false;
        /** What is busy: kind, sector, ticks left. */
        int[] busy = null;
        int[] asleep = null;
        long clocks = 0;
        int begun = 0;

        State(int[] shape) {
            this.shape = shape.clone();
            mem = new int[shape[0] * shape[1] * shape[2]];
            Arrays.fill(mem, 255);
        }

        State copy() {
            State c = new State(shape);
            c.mem = mem.clone();
            c.locked = new ArrayList<>(locked);
            c.in = in == null ? null : new ArrayList<>(in);
            c.lastIn = lastIn == null ? null : new ArrayList<>(lastIn);
            c.lanes = lanes;
            c.level = level;
            c.enabled = enabled;
            c.error = error;
            c.busy = busy == null ? null : busy.clone();
            c.asleep = asleep == null ? null : asleep.clone();
            c.clocks = clocks;
            c.begun = begun;
            return c;
        }
    }

    private String text = "";
    private State st = new State(new int[] {8, 4, 8, 2, 5});
    private final Deque<State> kept = new ArrayDeque<>();

    /** Two models with the same key do the same from there on, but for clocks and how much was begun. */
    String key() {
        StringBuilder key = new StringBuilder(text);
        key.append(keyOf(st));
        for (State each : kept) key.append(keyOf(each));
        return key.toString();
    }

    private static String keyOf(State s) {
        boolean readied = s.lastIn != null && s.lastIn.equals(List.of(102));
        List<Integer> locked = new ArrayList<>(s.locked);
        Collections.sort(locked);
        return "|" + Arrays.toString(s.shape) + Arrays.toString(s.mem) + locked + s.in + readied + s.lanes + s.level
                + s.enabled + s.error + Arrays.toString(s.busy) + Arrays.toString(s.asleep);
    }

    private static boolean out(int v, int low, int high) {
        return v < low || v > high;
    }

    int write(int letter) {
        if (out(letter, 32, 126)) return BAD;
        if (text.length() == 200) return FULL;
        text += (char) letter;
        return text.length();
    }

    int wipe() {
        int was = text.length();
        text = "";
        return was;
    }

    /** {fault, 1 if the last item is a check, P, S, N, T, E}. */
    private int[] told() {
        int[] r = {NONE, 0, 8, 4, 8, 2, 5};
        int from = 0;
        while (from < text.length()) {
            int end = text.indexOf(';', from);
            String item = end < 0 ? "" : text.substring(from, end);
            Matcher g = PARTS.matcher(item);
            Matcher t = TICKS.matcher(item);
            Matcher c = CHECK.matcher(item);
            boolean fine = r[1] == 0;
            if (fine && g.matches()) {
                int p = Integer.parseInt(g.group(1));
                int s = Integer.parseInt(g.group(2));
                int n = Integer.parseInt(g.group(3));
                fine = List.of(4, 8, 16).contains(p) && List.of(2, 4, 8).contains(s) && !out(n, 2, 8)
                        && p * s * n <= 256;
                r[2] = p;
                r[3] = s;
                r[4] = n;
            } else if (fine && t.matches()) {
                r[5] = Integer.parseInt(t.group(1));
                r[6] = Integer.parseInt(t.group(2));
                fine = !out(r[5], 1, 9) && !out(r[6], 1, 20);
            } else if (fine && c.matches()) {
                fine = Integer.parseInt(c.group(1)) == (r[2] + r[3] + r[4] + r[5] + r[6]) % 97;
                r[1] = 1;
            } else {
                fine = false;
            }
            if (!fine) {
                r[0] = from;
                return r;
            }
            from = end + 1;
        }
        return r;
    }

    int fault() {
        return told()[0];
    }

    int lay() {
        int[] r = told();
        if (r[0] != NONE || r[1] == 0) return NO;
        st = new State(Arrays.copyOfRange(r, 2, 7));
        kept.clear();
        return st.mem.length;
    }

    int select() {
        if (st.in != null) return NO;
        st.in = new ArrayList<>();
        return st.lanes;
    }

    private int status() {
        return (st.busy != null ? 1 : 0) | (st.enabled ? 2 : 0) | st.level << 2 | (st.asleep != null ? 64 : 0)
                | (st.error ? 128 : 0);
    }

    private int[] tableRow() {
        int sum = 83 + 70;
        for (int x : st.shape) sum += x;
        return new int[] {83, 70, st.shape[0], st.shape[1], st.shape[2], st.shape[3], st.shape[4], sum % 256};
    }

    int put(int v) {
        if (out(v, 0, 255)) return BAD;
        if (st.in == null) return NO;
        st.in.add(v);
        st.clocks += 8 / st.lanes;
        int command = st.in.get(0);
        int behind = st.in.size() - 1;
        if (command == 5 && behind >= 1) return status();
        if (st.busy != null) return 255;
        int ahead = command == 3 ? 1 : command == 11 || command == 90 ? 2 : 10000;
        if (behind <= ahead) return 255;
        int place = st.in.get(1) + behind - ahead - 1;
        if (command == 90) return place < 8 ? tableRow()[place] : 255;
        return st.mem[place % st.mem.length];
    }

    private int sectorOf(int address) {
        return address % st.mem.length / (st.shape[0] * st.shape[1]);
    }

    private boolean guarded(int s) {
        return st.locked.contains(s) || st.shape[2] - s <= st.level;
    }

    private boolean anyGuarded() {
        for (int s = 0; s < st.shape[2]; s++) if (guarded(s)) return true;
        return false;
    }

    int release() {
        if (st.in == null) return NO;
        List<Integer> in = st.in;
        List<Integer> last = st.lastIn;
        st.in = null;
        st.lastIn = new ArrayList<>(in);
        if (st.busy != null) st.lastIn.add(-1);
        if (st.busy != null) {
            if (in.equals(List.of(117)) && st.busy[0] == 32) {
                st.asleep = st.busy;
                st.busy = null;
            }
            return status();
        }
        if (in.equals(List.of(6))) {
            st.enabled = true;
            st.error = false;
        } else if (in.equals(List.of(4))) {
            st.enabled = false;
        } else if (in.equals(List.of(122)) && st.asleep != null) {
            st.busy = st.asleep;
            st.asleep = null;
        } else if (in.equals(List.of(153)) && last != null && last.equals(List.of(102))) {
            st.lanes = 1;
            st.enabled = false;
            st.error = false;
            st.asleep = null;
        } else if (in.size() == 2 && in.get(0) == 49 && in.get(1) < 4) {
            st.lanes = List.of(1, 2, 4, 8).get(in.get(1));
        } else if (in.size() == 2 && (in.get(0) == 54 || in.get(0) == 57)) {
            Integer s = sectorOf(in.get(1));
            st.locked.remove(s);
            if (in.get(0) == 54) st.locked.add(s);
        } else if (st.enabled && in.size() > 0) {
            guardedWork(in);
        }
        return status();
    }

    private void guardedWork(List<Integer> in) {
        int command = in.get(0);
        int size = in.size();
        boolean told = command == 1 && size == 2 || command == 2 && size >= 3 || command == 32 && size == 2
                || command == 199 && size == 1;
        if (!told) return;
        st.enabled = false;
        int s = size > 1 ? sectorOf(in.get(1)) : -1;
        boolean asleep = st.asleep != null;
        boolean refused = command == 2 ? guarded(s) || asleep && st.asleep[1] == s
                : command == 32 ? guarded(s) || asleep : command == 199 ? anyGuarded() || asleep : asleep;
        if (refused) {
            st.error = true;
            return;
        }
        if (command == 1) {
            st.level = in.get(1) >> 2 & 7;
            return;
        }
        st.begun++;
        int ticks = command == 2 ? st.shape[3] : command == 32 ? st.shape[4] : st.shape[4] * st.shape[2];
        st.busy = new int[] {command, s, ticks};
        if (command != 2) return;
        int p = st.shape[0];
        Integer[] last = new Integer[p];
        int a = in.get(1) % st.mem.length;
        for (int i = 2; i < size; i++) last[(a + i - 2) % p] = in.get(i);
        for (int i = 0; i < p; i++) if (last[i] != null) st.mem[a / p * p + i] &= last[i];
    }

    int send(int command, int address, int v, int n) {
        if (out(command, 0, 255) || out(address, 0, 255) || out(v, 0, 255) || out(n, 0, 40)) return BAD;
        if (st.in != null) return NO;
        select();
        put(command);
        return rest(put(address), v, n);
    }

    int order(int command, int v, int n) {
        if (out(command, 0, 255) || out(v, 0, 255) || out(n, 0, 40)) return BAD;
        if (st.in != null) return NO;
        select();
        return rest(put(command), v, n);
    }

    private int rest(int answer, int v, int n) {
        for (int i = 0; i < n; i++) answer = put((v + i) % 256);
        release();
        return answer;
    }

    int tick(int n) {
        if (out(n, 1, 99)) return BAD;
        if (st.busy == null) return 0;
        int passed = Math.min(n, st.busy[2]);
        st.busy[2] -= passed;
        if (st.busy[2] == 0) {
            int sectorBytes = st.shape[0] * st.shape[1];
            if (st.busy[0] == 32) {
                Arrays.fill(st.mem, st.busy[1] * sectorBytes, st.busy[1] * sectorBytes + sectorBytes, 255);
            } else if (st.busy[0] == 199) {
                Arrays.fill(st.mem, 255);
            }
            st.busy = null;
        }
        return passed;
    }

    int at(int a) {
        return out(a, 0, st.mem.length - 1) ? BAD : st.mem[a];
    }

    int sector(int s, int what) {
        if (out(s, 0, st.shape[2] - 1) || out(what, 0, 4)) return BAD;
        int sectorBytes = st.shape[0] * st.shape[1];
        int[] own = Arrays.copyOfRange(st.mem, s * sectorBytes, (s + 1) * sectorBytes);
        if (what == 0) return (int) Arrays.stream(own).filter(x -> x == 255).count();
        if (what == 1) return Arrays.stream(own).sum();
        if (what == 2) return st.locked.contains(s) ? 1 : 0;
        if (what == 3) return guarded(s) ? 1 : 0;
        boolean erased = st.busy != null && (st.busy[0] == 199 || st.busy[0] == 32 && st.busy[1] == s)
                || st.asleep != null && st.asleep[1] == s;
        return erased ? 1 : 0;
    }

    int table(int k) {
        return out(k, 0, 7) ? BAD : tableRow()[k];
    }

    int keep() {
        if (kept.size() == 2) return FULL;
        kept.push(st.copy());
        return kept.size();
    }

    int back() {
        if (kept.isEmpty()) return NO;
        st = kept.pop();
        return kept.size();
    }

    int unlike() {
        if (kept.isEmpty()) return NO;
        int others = 0;
        for (int a = 0; a < st.mem.length; a++) if (st.mem[a] != kept.peek().mem[a]) others++;
        return others;
    }

    int count(int what) {
        if (out(what, 0, 13)) return BAD;
        int left = st.busy != null ? st.busy[2] : st.asleep != null ? st.asleep[2] : 0;
        int[] all = {st.mem.length, st.shape[0], st.shape[1], st.shape[2], st.shape[3], st.shape[4], st.lanes,
            status(), (int) (st.clocks % 1000000), left, st.in == null ? 0 : st.in.size(), kept.size(),
            text.length(), st.begun};
        return all[what];
    }
}
