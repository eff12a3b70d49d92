import java.util.ArrayList;
import java.util.List;

/** What an object answers, as numbers that can be held against those of another; some two hundred calls. */
final class Look {
    private Look() {
    }

    static List<Long> at(ShadeRegister x) {
        List<Long> seen = new ArrayList<>();
        for (int what = 0; what <= 10; what++) {
            seen.add((long) x.about(what));
        }
        for (int thing : firstAndLast(x.about(4), 3)) {
            addThing(seen, x, thing);
        }
        for (int month = 0; month < 12; month++) {
            seen.add(x.account(0, 30 * month, 30 * month, x.about(0)));
            seen.add(x.account(1, 30 * month + 10, 30 * month + 10, x.about(0)));
        }
        for (int stall : firstAndLast(x.about(7), 2)) {
            for (int hour = 0; hour < 12; hour++) {
                seen.add((long) x.placeOf(stall, hour));
            }
        }
        for (int what = 0; what < 2; what++) {
            seen.add((long) x.fault(what));
        }
        for (int i = -1; i < 3; i++) {
            seen.add(x.walked(i));
        }
        seen.add((long) x.gives(2, 3, 5, 7, 11, 13));
        return seen;
    }

    private static void addThing(List<Long> seen, ShadeRegister x, int thing) {
        for (int what = 0; what < 8; what++) {
            seen.add((long) x.thing(thing, what));
        }
        seen.add((long) x.height(thing, x.about(0), 3599));
        for (int entry : firstAndLast(x.thing(thing, 4), 3)) {
            for (int what = 0; what < 3; what++) {
                seen.add((long) x.entry(thing, entry, what));
            }
        }
    }

    /** The first few numbers below a bound, and the last one. */
    private static int[] firstAndLast(int bound, int few) {
        int many = Math.min(bound, few + 1);
        int[] numbers = new int[many];
        for (int i = 0; i < many; i++) {
            numbers[i] = i == few ? bound - 1 : i;
        }
        return numbers;
    }
}
