import java.util.ArrayList;
import java.util.List;
import java.util.function.Consumer;

/** Two objects that nothing may tell apart: neither a look at them nor what they do from there on. */
final class Twins {
    /** What comes next shows what no look does: what was put, the last release, what is kept, the letters. */
    private static final int FUTURES = 11;

    private Twins() {
    }

    /** Each future wants objects of its own; none of them goes beyond its 512 calls. */
    static void areAlike(String what, Consumer<FlashLanes> one, Consumer<FlashLanes> other) {
        for (int future = 0; future < FUTURES; future++) {
            areAlike(what, one, other, future);
        }
    }

    static void areAlike(String what, Consumer<FlashLanes> one, Consumer<FlashLanes> other, int future) {
        FlashLanes x = new FlashLanes();
        FlashLanes y = new FlashLanes();
        one.accept(x);
        other.accept(y);
        Due.is(what + ", unlike in future " + future + " at answer", firstOther(lived(x, future), lived(y, future)),
                -1);
    }

    /** All that can be looked at. */
    static List<Integer> look(FlashLanes x) {
        List<Integer> seen = new ArrayList<>();
        for (int what = 0; what < 14; what++) {
            seen.add(x.count(what));
        }
        for (int a = 0; a < seen.get(0); a++) {
            seen.add(x.at(a));
        }
        for (int s = 0; s < seen.get(3); s++) {
            for (int what = 0; what < 5; what++) {
                seen.add(x.sector(s, what));
            }
        }
        for (int k = 0; k < 8; k++) {
            seen.add(x.table(k));
        }
        seen.add(x.unlike());
        seen.add(x.fault());
        return seen;
    }

    /** The place of the first answer that is not the same in both, or -1. */
    static int firstOther(List<Integer> one, List<Integer> other) {
        for (int i = 0; i < Math.min(one.size(), other.size()); i++) {
            if (!one.get(i).equals(other.get(i))) {
                return i;
            }
        }
        return one.size() == other.size() ? -1 : Math.min(one.size(), other.size());
    }

    private static List<Integer> lived(FlashLanes x, int future) {
        List<Integer> answers = new ArrayList<>();
        for (int answer : live(x, future)) {
            answers.add(answer);
        }
        answers.addAll(look(x));
        return answers;
    }

    private static int[] live(FlashLanes x, int future) {
        switch (future) {
            case 1:
                return new int[] {x.put(9), x.put(33), x.release(), x.order(153, 0, 0)};
            case 2:
                return new int[] {x.tick(99), x.tick(99)};
            case 3:
                return new int[] {x.order(153, 0, 0)};
            case 4:
                return new int[] {x.back()};
            case 5:
                return new int[] {x.back(), x.back()};
            case 6:
                return new int[] {x.release(), x.order(122, 0, 0), x.tick(99)};
            case 7:
                return new int[] {x.release(), x.send(2, 5, 0, 3), x.order(6, 0, 0), x.send(2, 9, 0, 3), x.tick(1)};
            case 8:
                return new int[] {x.lay()};
            case 9:
                return new int[] {x.write('c'), x.write('2'), x.write('7'), x.write(';'), x.lay()};
            case 10:
                return new int[] {x.release(), x.order(153, 0, 0), x.select(), x.keep()};
            default:
                return new int[0];
        }
    }
}
