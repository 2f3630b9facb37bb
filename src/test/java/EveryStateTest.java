import java.util.ArrayDeque;
import java.util.Arrays;
import java.util.Deque;
import java.util.HashSet;
import java.util.Set;

/** Every state that a small chip comes to by the steps below, each further step from there: all as in the model. */
public final class EveryStateTest {
    private static final String SMALL = "g4,2,3;t2,3;c14;";
    /** Above what there is, so that a model gone astray does not run on. */
    private static final int MOST_STATES = 100000;

    /** Steps by which other states are sought: the letter of a call, its numbers. */
    private static final int[][] STEPS = {
        {'o', 6, 0, 0}, {'o', 4, 0, 0}, {'o', 1, 0, 1}, {'o', 1, 4, 1}, {'o', 1, 8, 1}, {'s', 2, 0, 0, 1},
        {'s', 2, 9, 0, 1}, {'s', 32, 0, 0, 0}, {'s', 32, 8, 0, 0}, {'s', 32, 16, 0, 0}, {'o', 199, 0, 0},
        {'o', 117, 0, 0}, {'o', 122, 0, 0}, {'o', 49, 0, 1}, {'o', 49, 2, 1}, {'s', 54, 0, 0, 0}, {'s', 54, 8, 0, 0},
        {'s', 54, 16, 0, 0}, {'s', 57, 0, 0, 0}, {'s', 57, 8, 0, 0}, {'s', 57, 16, 0, 0}, {'o', 102, 0, 0},
        {'o', 153, 0, 0}, {'t', 1},
    };

    /** Steps gone from every state, without seeking other states behind them. */
    private static final int[][][] ASIDE = {
        {{'S'}, {'R'}, {'o', 153, 0, 0}},
        {{'S'}, {'p', 3}, {'p', 23}, {'p', 0}, {'t', 1}, {'p', 0}, {'p', 0}, {'R'}},
        {{'S'}, {'p', 11}, {'t', 1}, {'p', 9}, {'p', 0}, {'p', 0}, {'R'}, {'o', 153, 0, 0}},
        {{'S'}, {'p', 5}, {'p', 0}, {'t', 1}, {'p', 0}, {'R'}},
        {{'S'}, {'p', 90}, {'p', 6}, {'p', 0}, {'p', 0}, {'p', 0}, {'p', 0}, {'R'}},
        {{'S'}, {'p', 117}, {'t', 1}, {'R'}, {'o', 122, 0, 0}, {'t', 9}},
        {{'S'}, {'p', 102}, {'t', 1}, {'R'}, {'o', 153, 0, 0}},
        {{'S'}, {'p', 6}, {'t', 2}, {'R'}, {'s', 2, 5, 7, 6}, {'t', 1}},
        {{'k'}, {'o', 153, 0, 0}},
        {{'k'}, {'o', 6, 0, 0}, {'s', 2, 2, 1, 3}, {'t', 1}, {'u'}, {'b'}, {'o', 153, 0, 0}},
        {{'k'}, {'S'}, {'p', 102}, {'k'}, {'R'}, {'b'}, {'R'}, {'b'}, {'o', 122, 0, 0}, {'t', 3}},
        {{'k'}, {'o', 102, 0, 0}, {'b'}, {'o', 153, 0, 0}, {'b'}},
        {{'S'}, {'p', 2}, {'p', 1}, {'k'}, {'p', 0}, {'b'}, {'p', 8}, {'R'}},
        {{'o', 6, 0, 1}, {'o', 4, 0, 1}, {'o', 199, 0, 1}, {'o', 117, 0, 1}, {'o', 122, 0, 1}, {'s', 2, 0, 0, 0},
            {'s', 32, 0, 0, 1}, {'s', 54, 0, 0, 1}, {'s', 57, 0, 0, 1}, {'o', 49, 3, 2}, {'o', 1, 4, 2}},
        {{'o', 102, 0, 1}, {'o', 153, 0, 0}, {'o', 102, 0, 0}, {'o', 153, 0, 1}},
        {{'o', 102, 0, 0}, {'t', 9}, {'o', 153, 0, 0}},
        {{'o', 49, 4, 1}, {'o', 49, 3, 1}, {'o', 5, 0, 2}, {'t', 9}, {'o', 7, 0, 0}},
        {{'l'}, {'o', 153, 0, 0}, {'o', 122, 0, 0}, {'t', 1}, {'b'}},
        {{'w', 'x'}, {'l'}, {'o', 153, 0, 0}, {'t', 99}},
    };

    private final Set<String> seen = new HashSet<>();
    /** The ways to the states from which no step has been gone yet. */
    private final Deque<int[][]> waiting = new ArrayDeque<>();
    private FlashLanes x;
    private Model model;
    private int compared = 0;

    public static void main(String[] args) {
        EveryStateTest test = new EveryStateTest();
        test.goRound();
        System.out.println(test.seen.size() + " states, " + test.compared + " answers as in the model");
    }

    private void goRound() {
        waiting.add(new int[0][]);
        while (!waiting.isEmpty() && seen.size() < MOST_STATES) {
            int[][] way = waiting.remove();
            for (int[] step : STEPS) {
                int[][] longer = joined(way, step);
                go(longer);
                if (seen.add(model.key())) {
                    waiting.add(longer);
                }
            }
            for (int[][] steps : ASIDE) {
                go(joined(way, steps));
            }
        }
        if (!waiting.isEmpty()) {
            fail("too many states");
        }
    }

    private static int[][] joined(int[][] way, int[]... steps) {
        int[][] joined = Arrays.copyOf(way, way.length + steps.length);
        System.arraycopy(steps, 0, joined, way.length, steps.length);
        return joined;
    }

    /** Objects of the class can't be copied, so each way is gone from its beginning. */
    private void go(int[][] way) {
        x = new FlashLanes();
        model = new Model();
        for (int i = 0; i < SMALL.length(); i++) {
            x.write(SMALL.charAt(i));
            model.write(SMALL.charAt(i));
        }
        x.lay();
        model.lay();
        for (int i = 0; i < way.length; i++) {
            if (!isAlike(way[i])) {
                fail(told(Arrays.copyOf(way, i + 1)) + "the last one answers otherwise");
            }
        }
        String other = firstOther();
        if (!other.isEmpty()) {
            fail(told(way) + "then otherwise: " + other);
        }
    }

    private static void fail(String why) {
        System.out.println(why);
        System.exit(1);
    }

    private static String told(int[]... steps) {
        StringBuilder told = new StringBuilder();
        for (int[] step : steps) {
            told.append((char) step[0]);
            for (int i = 1; i < step.length; i++) {
                told.append(' ').append(step[i]);
            }
            told.append("; ");
        }
        return told.toString();
    }

    private boolean isAlike(int[] step) {
        switch (step[0]) {
            case 'o':
                return same(x.order(step[1], step[2], step[3]), model.order(step[1], step[2], step[3]));
            case 's':
                return same(x.send(step[1], step[2], step[3], step[4]),
                        model.send(step[1], step[2], step[3], step[4]));
            case 't':
                return same(x.tick(step[1]), model.tick(step[1]));
            case 'S':
                return same(x.select(), model.select());
            case 'p':
                return same(x.put(step[1]), model.put(step[1]));
            case 'R':
                return same(x.release(), model.release());
            case 'k':
                return same(x.keep(), model.keep());
            case 'b':
                return same(x.back(), model.back());
            case 'u':
                return same(x.unlike(), model.unlike());
            case 'l':
                return same(x.lay(), model.lay());
            default:
                return same(x.write(step[1]), model.write(step[1]));
        }
    }

    private String firstOther() {
        for (int what = 0; what < 14; what++) {
            if (!same(x.count(what), model.count(what))) return "count(" + what + ")";
        }
        for (int a = 0; a < 24; a++) {
            if (!same(x.at(a), model.at(a))) return "at(" + a + ")";
        }
        for (int s = 0; s < 3; s++) {
            for (int what = 0; what < 5; what++) {
                if (!same(x.sector(s, what), model.sector(s, what))) return "sector(" + s + ", " + what + ")";
            }
        }
        return same(x.unlike(), model.unlike()) ? "" : "unlike()";
    }

    private boolean same(int got, int want) {
        compared++;
        return got == want;
    }
}
