import java.util.ArrayList;
import java.util.List;
import java.util.function.Supplier;

/** Answers by trying everything: all X of all ROPES, all ways to carry four PAILS. */
final class Brute {
    private final int ropes;
    private final int[] kind;
    private final int[] length;
    private final int[] on;
    /** The heights of all rooms, for each X of all ROPES. */
    private final List<int[]> heights = new ArrayList<>();

    Brute(RopeRooms r) {
        ropes = r.count(0);
        kind = new int[ropes];
        length = new int[ropes];
        on = new int[ropes];
        for (int p = 0; p < ropes; p++) {
            kind[p] = r.rope(p, 0);
            length[p] = r.rope(p, 1);
            on[p] = r.rope(p, 5);
        }
        fill(0, new int[2 * ropes]);
    }

    private void fill(int p, int[] high) {
        if (p == ropes) {
            heights.add(high.clone());
            return;
        }
        int foot = on[p] == -1 ? 0 : high[on[p]];
        for (int x = 0; x <= length[p]; x += kind[p] == 1 ? 2 : 1) {
            high[2 * p] = foot + x;
            high[2 * p + 1] = foot + (kind[p] == 1 ? (length[p] - x) / 2 : length[p] - x);
            fill(p + 1, high);
        }
    }

    int feast(int some) {
        int first = Integer.numberOfTrailingZeros(some);
        int least = -1;
        for (int[] high : heights) {
            boolean at = true;
            for (int room = 0; room < high.length && at; room++) {
                at = (some >> room & 1) == 0 || high[room] == high[first];
            }
            if (at && (least == -1 || high[first] < least)) {
                least = high[first];
            }
        }
        return least;
    }

    /** The fewest rooms to leave out; of several the set that has the lower room where two first differ. */
    int leaveOut(int[] wanted) {
        int best = -1;
        for (int[] high : heights) {
            int out = 0;
            for (int room = 0; room < high.length; room++) {
                if (wanted[room] != -1 && wanted[room] != high[room]) {
                    out |= 1 << room;
                }
            }
            boolean fewer = Integer.bitCount(out) < Integer.bitCount(best);
            boolean same = Integer.bitCount(out) == Integer.bitCount(best);
            if (best == -1 || fewer || same && (out & Integer.lowestOneBit(out ^ best)) != 0) {
                best = out;
            }
        }
        return best;
    }

    /** PAILS by carrying them and waiting for REST: the numbers of all rooms, or nothing. */
    static int[] pails(Supplier<RopeRooms> make, int[] wanted) {
        for (int n = 0; n <= 4; n++) {
            int[] given = new int[wanted.length];
            if (carry(make, wanted, given, 0, n)) {
                return given;
            }
        }
        return null;
    }

    private static boolean carry(Supplier<RopeRooms> make, int[] wanted, int[] given, int room, int left) {
        if (room == wanted.length) {
            return left == 0 && isSo(make.get(), wanted, given);
        }
        for (int n = left; n >= -left; n--) {
            given[room] = n;
            if (carry(make, wanted, given, room + 1, left - Math.abs(n))) {
                return true;
            }
        }
        given[room] = 0;
        return false;
    }

    private static boolean isSo(RopeRooms r, int[] wanted, int[] given) {
        for (int room = 0; room < wanted.length; room++) {
            if (given[room] != 0 && !r.water(room, r.room(room, 3) + given[room])) {
                return false;
            }
        }
        r.rest();
        for (int room = 0; room < wanted.length; room++) {
            if (wanted[room] != -1 && wanted[room] != r.room(room, 0)) {
                return false;
            }
        }
        return true;
    }
}
