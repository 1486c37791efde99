import java.util.ArrayList;
import java.util.Arrays;
import java.util.List;
import java.util.NoSuchElementException;

/**
 * The document once more, by other and far slower ways than the class takes (minutes one by one, all X tried, texts
 * read sign by sign by a machine of states, rules worked by splitting them), so that both can be compared.
 */
final class Model {
    static final int NONE = -1;
    static final int HIDDEN = -1000000;
    /** An answer that this model can't find in fair time. */
    static final int TOO_DEAR = Integer.MIN_VALUE;

    static final class Rope {
        int k = 0, l = 10, x = 0, a = 10, b = 10, h = 5, s = 0, r = 0, u = NONE;
        int now, travel;
        boolean on = true;

        Rope copy() {
            Rope o = new Rope();
            o.k = k; o.l = l; o.x = x; o.a = a; o.b = b; o.h = h; o.s = s; o.r = r; o.u = u;
            o.now = now; o.travel = travel; o.on = on;
            return o;
        }
    }

    static final class Town {
        List<Rope> ropes = new ArrayList<>();
        int[] water = new int[12];
        List<Integer> at = new ArrayList<>();
        int minutes;
        long draws;

        Town copy() {
            Town o = new Town();
            for (Rope r : ropes) o.ropes.add(r.copy());
            o.water = water.clone();
            o.at = new ArrayList<>(at);
            o.minutes = minutes;
            o.draws = draws;
            return o;
        }
    }

    String tape = "";
    Town town = new Town();
    Town image;
    List<Integer> galleries = new ArrayList<>();
    boolean[][] beside = new boolean[18][18];
    List<Integer> weights = new ArrayList<>();
    int[] wanted = new int[12];
    int[] seen = new int[12];
    List<int[]> tasks = new ArrayList<>();
    List<String> rules = new ArrayList<>();

    // ---- texts

    int feed(int a, int b, int c, int d, int e) {
        StringBuilder s = new StringBuilder(tape);
        for (int w : new int[] {a, b, c, d, e}) {
            for (int i = 3; i >= 0; i--) {
                int one = w >>> 8 * i & 255;
                if (one != 0) s.append((char) one);
            }
        }
        if (s.length() > 160) return NONE;
        tape = s.toString();
        return tape.length();
    }

    boolean end(int n) {
        if (n < 0 || n > tape.length()) return false;
        tape = tape.substring(0, n);
        return true;
    }

    int fault(int sort) {
        if (sort == 0) return townFault(tape, new ArrayList<>());
        if (sort == 1) return ruleFault(tape);
        return -2;
    }

    static int townFault(String t, List<Rope> ropes) {
        int state = 0; // 0 letter due, 1 digit due, 2 in a number, 3 behind a number
        String seenLetters = "";
        char letter = 0;
        String digits = "";
        Rope rope = new Rope();
        for (int i = 0; i <= t.length(); i++) {
            int c = i < t.length() ? t.charAt(i) : -1;
            boolean digit = c >= '0' && c <= '9';
            if (state == 2) {
                if (digit) {
                    if (digits.length() == 3) return i;
                    digits += (char) c;
                    continue;
                }
                if (!put(rope, ropes.size(), letter, Integer.parseInt(digits))) return i - 1;
                state = 3;
            }
            if (c == ' ') continue;
            if (state == 0) {
                if (c < 0 || "klxabhsru".indexOf(c) < 0 || seenLetters.indexOf(c) >= 0) return i;
                if (c == 'u' && ropes.isEmpty()) return i;
                letter = (char) c;
                seenLetters += letter;
                state = 1;
            } else if (state == 1) {
                if (!digit) return i;
                digits = "" + (char) c;
                state = 2;
            } else if (c == ',') {
                state = 0;
            } else if (c == ';' || c < 0) {
                if (rope.k == 1 && (rope.l % 2 != 0 || rope.x % 2 != 0)) return i;
                rope.now = rope.x;
                ropes.add(rope);
                if (c == ';' && ropes.size() == 6) return i;
                rope = new Rope();
                seenLetters = "";
                state = 0;
                if (c < 0) return NONE;
            } else {
                return i;
            }
        }
        throw new IllegalStateException();
    }

    static boolean put(Rope r, int number, char letter, int v) {
        switch (letter) {
            case 'k': r.k = v; return v <= 2;
            case 'l': r.l = v; return 2 <= v && v <= 20 && r.x <= v;
            case 'x': r.x = v; return v <= r.l;
            case 'a': r.a = v; return 1 <= v && v <= 99;
            case 'b': r.b = v; return 1 <= v && v <= 99;
            case 'h': r.h = v; return v <= 99;
            case 's': r.s = v; return v <= 100;
            case 'r': r.r = v; return v <= 9;
            default: r.u = v; return v < 2 * number;
        }
    }

    /** One open ( or [ or the CLAUSE itself. */
    static final class Frame {
        char type; // c clause, ( or [
        char mode; // s first sum of a clause, l left sum, r right sum, d unit in ( ) ended, f the clause's sum
        int bangs;

        Frame(char type, char mode) {
            this.type = type;
            this.mode = mode;
        }
    }

    static int ruleFault(String t) {
        List<Frame> open = new ArrayList<>();
        int state = 0; // 0 y, 1 :, 2 operand, 3 number, 4 behind an operand
        boolean unitStart = false;
        int digits = 0;
        for (int i = 0; i <= t.length(); i++) {
            int c = i < t.length() ? t.charAt(i) : -1;
            if (state == 3) {
                if (c >= '0' && c <= '9') {
                    if (++digits > 4) return i;
                    continue;
                }
                state = 4;
            }
            if (c == ' ') continue;
            Frame top = open.isEmpty() ? null : open.get(open.size() - 1);
            if (state == 0) {
                if (c != 'y') return i;
                state = 1;
            } else if (state == 1) {
                if (c != ':') return i;
                open.clear();
                open.add(new Frame('c', 's'));
                state = 2;
                unitStart = true;
            } else if (state == 2) {
                if (c >= '0' && c <= '9') {
                    digits = 1;
                    state = 3;
                    unitStart = false;
                } else if (c > 0 && "pxlhdti".indexOf(c) >= 0) {
                    state = 4;
                    unitStart = false;
                } else if (c == '[' || unitStart && (c == '!' || c == '(')) {
                    int deep = 0;
                    for (Frame f : open) deep += f.bangs + (f.type == 'c' ? 0 : 1);
                    if (deep == 6) return i;
                    if (c == '!') {
                        top.bangs++;
                        top.mode = 'l';
                    } else if (c == '(') {
                        top.mode = 'l';
                        open.add(new Frame('(', 'l'));
                    } else {
                        unitStart = false;
                        open.add(new Frame('[', 'f'));
                    }
                } else {
                    return i;
                }
            } else {
                boolean unitEnds = top.mode == 'r' || top.mode == 'd';
                if ((c == '+' || c == '-' || c == '*' || c == '/') && top.mode != 'd') {
                    state = 2;
                } else if ((c == '=' || c == '<' || c == '>') && (top.mode == 's' || top.mode == 'l')) {
                    top.mode = 'r';
                    state = 2;
                } else if ((c == '&' || c == '|') && unitEnds) {
                    top.mode = 'l';
                    top.bangs = 0;
                    unitStart = true;
                    state = 2;
                } else if (c == '?' && top.type == 'c' && unitEnds) {
                    top.mode = 'f';
                    top.bangs = 0;
                    state = 2;
                } else if (c == ')' && top.type == '(' && unitEnds) {
                    open.remove(open.size() - 1);
                    open.get(open.size() - 1).mode = 'd';
                } else if (c == ']' && top.type == '[') {
                    open.remove(open.size() - 1);
                } else if ((c == ';' || c < 0) && top.type == 'c' && (top.mode == 's' || top.mode == 'f')) {
                    if (c < 0) return NONE;
                    state = 0;
                } else {
                    return i;
                }
            }
        }
        throw new IllegalStateException();
    }

    int text(int sort, long seed) {
        if (sort == 1) {
            if (ruleFault(tape) != NONE || rules.size() == 4) return NONE;
            rules.add(tape.replace(" ", ""));
            tape = "";
            return rules.size() - 1;
        }
        List<Rope> told = new ArrayList<>();
        if (sort != 0 || townFault(tape, told) != NONE) return NONE;
        tape = "";
        town = new Town();
        town.ropes = told;
        town.draws = seed;
        image = null;
        galleries.clear();
        beside = new boolean[18][18];
        weights.clear();
        Arrays.fill(wanted, NONE);
        Arrays.fill(seen, NONE);
        tasks.clear();
        return told.size();
    }

    // ---- mechanics

    int ropes() {
        return town.ropes.size();
    }

    boolean isRope(int p) {
        return 0 <= p && p < ropes();
    }

    boolean isRoom(int r) {
        return 0 <= r && r < 2 * ropes();
    }

    boolean isPlace(int p) {
        return isRoom(p) || 12 <= p && p - 12 < galleries.size();
    }

    int height(Town t, int place) {
        if (place >= 12) return galleries.get(place - 12);
        Rope r = t.ropes.get(place / 2);
        int own = place % 2 == 0 ? r.now : r.k == 1 ? (r.l - r.now) / 2 : r.l - r.now;
        return own + (r.u == NONE ? 0 : height(t, r.u));
    }

    int bears(Town t, int room) {
        Rope own = t.ropes.get(room / 2);
        int sum = (room % 2 == 0 ? own.a : own.b) + t.water[room];
        for (int i = 0; i < t.at.size(); i++) if (t.at.get(i) == room) sum += weights.get(i);
        for (int q = 0; q < t.ropes.size(); q++) {
            if (t.ropes.get(q).u == room) sum += bears(t, 2 * q) + bears(t, 2 * q + 1);
        }
        return sum;
    }

    int pull(Town t, int p) {
        Rope r = t.ropes.get(p);
        if (r.k == 2) return 0;
        if (r.k == 1) return 2 * bears(t, 2 * p) - bears(t, 2 * p + 1);
        return bears(t, 2 * p) - bears(t, 2 * p + 1) + r.r * (r.l - 2 * r.now);
    }

    int minute(Town t, boolean slip) {
        int steps = 0;
        for (int p = 0; p < t.ropes.size(); p++) {
            Rope r = t.ropes.get(p);
            boolean slips = false;
            if (slip && r.on && r.s > 0) {
                t.draws = t.draws * 6364136223846793005L + 1442695040888963407L;
                slips = (t.draws >>> 33) % 100 < r.s;
            }
            boolean free = !r.on || slips;
            int pull = pull(t, p);
            if (free && pull != 0 || Math.abs(pull) > r.h) {
                int by = r.k == 1 ? 2 : 1;
                int next = pull > 0 ? r.now - by : r.now + by;
                if (next >= 0 && next <= r.l) {
                    r.now = next;
                    r.travel++;
                    steps++;
                }
            }
        }
        t.minutes++;
        return steps;
    }

    int settle(Town t) {
        int n = 0;
        while (true) {
            Town next = t.copy();
            if (minute(next, false) == 0) return n;
            minute(t, false);
            n++;
        }
    }

    boolean meets(Town t, int one, int other) {
        return beside[one][other] && height(t, one) == height(t, other);
    }

    // ---- the face

    int rope(int rope, int what) {
        if (!isRope(rope) || what < 0 || what > 9) throw new NoSuchElementException();
        Rope r = town.ropes.get(rope);
        int[] all = {r.k, r.l, r.now, r.h, r.s, r.u, r.on ? 1 : 0, r.travel, pull(town, rope), r.r};
        return all[what];
    }

    int room(int room, int what) {
        if (!isRoom(room) || what < 0 || what > 3) return HIDDEN;
        Rope r = town.ropes.get(room / 2);
        int[] all = {height(town, room), room % 2 == 0 ? r.a : r.b, bears(town, room), town.water[room]};
        return all[what];
    }

    boolean brake(int rope, boolean on) {
        if (!isRope(rope)) return false;
        town.ropes.get(rope).on = on;
        return true;
    }

    boolean water(int room, int v) {
        if (!isRoom(room) || v < 0 || v > 99) return false;
        town.water[room] = v;
        return true;
    }

    int turn(int rope, int n) {
        if (!isRope(rope) || town.ropes.get(rope).k != 2 || Math.abs((long) n) > 20) return NONE;
        Rope r = town.ropes.get(rope);
        for (int i = 0; i < Math.abs(n); i++) {
            int next = n > 0 ? r.now + 1 : r.now - 1;
            if (next >= 0 && next <= r.l) r.now = next;
        }
        return r.now;
    }

    int minutes(int n) {
        if (ropes() == 0 || n < 1 || n > 60) return NONE;
        int steps = 0;
        for (int i = 0; i < n; i++) steps += minute(town, true);
        return steps;
    }

    int rest() {
        return ropes() == 0 ? NONE : settle(town);
    }

    int gallery(int height) {
        if (ropes() == 0 || height < 0 || height > 60 || galleries.size() == 6) return NONE;
        galleries.add(height);
        return 11 + galleries.size();
    }

    boolean beside(int one, int other, boolean is) {
        if (!isPlace(one) || !isPlace(other) || one == other) return false;
        beside[one][other] = is;
        beside[other][one] = is;
        return true;
    }

    int meet(int one, int other) {
        if (!isPlace(one) || !isPlace(other) || one == other) return NONE;
        return meets(town, one, other) ? 1 : 0;
    }

    int person(int weight, int place) {
        if (weight < 1 || weight > 9 || !isPlace(place) || weights.size() == 8) return NONE;
        weights.add(weight);
        town.at.add(place);
        return weights.size() - 1;
    }

    boolean step(int person, int place) {
        if (person < 0 || person >= weights.size() || !isPlace(place)) return false;
        if (!meets(town, town.at.get(person), place)) return false;
        town.at.set(person, place);
        return true;
    }

    int where(int person) {
        return person < 0 || person >= weights.size() ? NONE : town.at.get(person);
    }

    int way(int from, int to) {
        if (!isPlace(from) || !isPlace(to)) return NONE;
        Town t = town.copy();
        boolean[] can = new boolean[18];
        can[from] = true;
        for (int m = 0; m <= 60; m++) {
            for (int round = 0; round < 18; round++) {
                for (int a = 0; a < 18; a++) {
                    for (int b = 0; b < 18; b++) {
                        if (can[a] && isPlace(b) && meets(t, a, b)) can[b] = true;
                    }
                }
            }
            if (can[to]) return m;
            minute(t, false);
        }
        return NONE;
    }

    int unseen(int one, int other, int n) {
        if (!isRoom(one) || !isRoom(other) || one == other || n < 0 || n > 60) return HIDDEN;
        Town t = town.copy();
        for (int m = 0; m <= n; m++) {
            if (height(t, one) == height(t, other)) return m;
            minute(t, false);
        }
        return NONE;
    }

    boolean want(int room, int height) {
        if (!isRoom(room) || height < -1 || height > 200) return false;
        wanted[room] = height;
        return true;
    }

    int so(Town t, int[] heights) {
        int n = 0;
        for (int r = 0; r < 2 * ropes(); r++) if (heights[r] != NONE && heights[r] == height(t, r)) n++;
        return n;
    }

    int told(int[] heights) {
        int n = 0;
        for (int r = 0; r < 2 * ropes(); r++) if (heights[r] != NONE) n++;
        return n;
    }

    int[] bestPails;
    int fewest;

    int pails(int room) {
        if (ropes() == 0 || room != NONE && !isRoom(room)) return HIDDEN;
        bestPails = null;
        fewest = 5;
        tryPails(new int[2 * ropes()], 0, 0);
        if (bestPails == null) return HIDDEN;
        return room == NONE ? fewest : bestPails[room];
    }

    private void tryPails(int[] d, int i, int used) {
        if (i == d.length) {
            if (used > fewest || bestPails != null && used == fewest && !before(d, bestPails)) return;
            Town t = town.copy();
            for (int r = 0; r < d.length; r++) t.water[r] += d[r];
            settle(t);
            if (so(t, wanted) == told(wanted)) {
                bestPails = d.clone();
                fewest = used;
            }
            return;
        }
        for (int n = -4; n <= 4; n++) {
            int w = town.water[i] + n;
            if (used + Math.abs(n) > 4 || w < 0 || w > 99) continue;
            d[i] = n;
            tryPails(d, i + 1, used + Math.abs(n));
        }
        d[i] = 0;
    }

    private static boolean before(int[] a, int[] b) {
        for (int i = 0; i < a.length; i++) if (a[i] != b[i]) return a[i] > b[i];
        return false;
    }

    /** All X of all ROPES, one after the other. */
    private List<int[]> allHeights() {
        long size = 1;
        for (Rope r : town.ropes) size *= r.k == 1 ? r.l / 2 + 1 : r.l + 1;
        if (size > 20000) return null;
        List<int[]> all = new ArrayList<>();
        Town t = town.copy();
        for (Rope r : t.ropes) r.now = 0;
        while (true) {
            int[] h = new int[2 * ropes()];
            for (int r = 0; r < h.length; r++) h[r] = height(t, r);
            all.add(h);
            int p = 0;
            while (p < ropes()) {
                Rope r = t.ropes.get(p);
                r.now += r.k == 1 ? 2 : 1;
                if (r.now <= r.l) break;
                r.now = 0;
                p++;
            }
            if (p == ropes()) return all;
        }
    }

    int together(int what) {
        if (ropes() == 0 || what < 0 || what > 1) return NONE;
        List<int[]> all = allHeights();
        if (all == null) return TOO_DEAR;
        int rooms = 2 * ropes();
        int best = -1;
        for (int[] h : all) {
            int out = 0;
            for (int r = 0; r < rooms; r++) if (wanted[r] != NONE && wanted[r] != h[r]) out |= 1 << r;
            if (best < 0 || Integer.bitCount(out) < Integer.bitCount(best)) best = out;
            else if (Integer.bitCount(out) == Integer.bitCount(best) && out != best) {
                int low = Integer.lowestOneBit(out ^ best);
                if ((out & low) != 0) best = out;
            }
        }
        return what == 1 ? best : best == 0 ? 1 : 0;
    }

    int task(int person, int place) {
        if (person < 0 || person >= weights.size() || !isPlace(place) || tasks.size() == 6) return NONE;
        tasks.add(new int[] {person, place});
        return tasks.size();
    }

    int orders(int what) {
        if (tasks.isEmpty() || what < 0 || what > 1) return NONE;
        int n = tasks.size();
        int count = 0;
        int first = NONE;
        int end = 1;
        for (int i = 0; i < n; i++) end *= 10;
        for (int digits = 0; digits < end; digits++) {
            int[] order = new int[n];
            int rest = digits;
            int used = 0;
            for (int i = n - 1; i >= 0; i--) {
                order[i] = rest % 10;
                rest /= 10;
                if (order[i] < n) used |= 1 << order[i];
            }
            if (used != (1 << n) - 1 || !possible(order)) continue;
            count++;
            if (first == NONE) first = digits;
        }
        return what == 0 ? count : first;
    }

    private boolean possible(int[] order) {
        Town t = town.copy();
        for (int i : order) {
            settle(t);
            int[] task = tasks.get(i);
            if (!meets(t, t.at.get(task[0]), task[1])) return false;
            t.at.set(task[0], task[1]);
        }
        return true;
    }

    boolean woke(int room, int height) {
        if (!isRoom(room) || height < -1 || height > 200) return false;
        seen[room] = height;
        return true;
    }

    int slipped(int n) {
        if (ropes() == 0 || n < 1 || n > 60) return NONE;
        int bits = 0;
        for (int p = 0; p < ropes(); p++) {
            Town t = town.copy();
            t.ropes.get(p).on = false;
            for (int i = 0; i < n; i++) minute(t, false);
            if (so(t, seen) == told(seen)) bits |= 1 << p;
        }
        return bits;
    }

    int rent(int room, int price) {
        if (price < 0 || price > 99) return NONE;
        if (room == NONE) {
            int sum = 0;
            for (int r = 0; r < 2 * ropes(); r++) sum += rent(r, price);
            return sum;
        }
        return isRoom(room) ? price * height(town, room) : NONE;
    }

    int even(int what) {
        if (ropes() == 0 || what < 0 || what > 1) return NONE;
        int[] n = new int[200];
        for (int r = 0; r < 2 * ropes(); r++) n[height(town, r)]++;
        int best = 0;
        for (int h = 1; h < 200; h++) if (n[h] > n[best]) best = h;
        return what == 0 ? best : n[best];
    }

    // ---- rules, by splitting

    static int bounded(long v) {
        return v > 1000000 ? 1000000 : v < -1000000 ? -1000000 : (int) v;
    }

    /** Where the last of some signs stands outside of ( ) and [ ], or -1. */
    static int lastOf(String s, String signs) {
        int deep = 0;
        for (int i = s.length() - 1; i >= 0; i--) {
            char c = s.charAt(i);
            if (c == ')' || c == ']') deep++;
            if (c == '(' || c == '[') deep--;
            if (deep == 0 && signs.indexOf(c) >= 0) return i;
        }
        return -1;
    }

    static int sum(String s, int[] letters) {
        int cut = lastOf(s, "+-");
        if (cut < 0) cut = lastOf(s, "*/");
        if (cut >= 0) {
            long a = sum(s.substring(0, cut), letters);
            long b = sum(s.substring(cut + 1), letters);
            switch (s.charAt(cut)) {
                case '+': return bounded(a + b);
                case '-': return bounded(a - b);
                case '*': return bounded(a * b);
                default: return b == 0 ? 0 : bounded(a / b);
            }
        }
        if (s.charAt(0) == '[') return sum(s.substring(1, s.length() - 1), letters);
        int letter = "pxlhdti".indexOf(s.charAt(0));
        return letter >= 0 ? letters[letter] : Integer.parseInt(s);
    }

    static boolean holds(String s, int[] letters) {
        int cut = lastOf(s, "|");
        if (cut >= 0) return holds(s.substring(0, cut), letters) | holds(s.substring(cut + 1), letters);
        cut = lastOf(s, "&");
        if (cut >= 0) return holds(s.substring(0, cut), letters) & holds(s.substring(cut + 1), letters);
        if (s.charAt(0) == '!') return !holds(s.substring(1), letters);
        if (s.charAt(0) == '(') return holds(s.substring(1, s.length() - 1), letters);
        cut = lastOf(s, "=<>");
        int a = sum(s.substring(0, cut), letters);
        int b = sum(s.substring(cut + 1), letters);
        char c = s.charAt(cut);
        return c == '=' ? a == b : c == '<' ? a < b : a > b;
    }

    static int worth(String rule, int[] letters) {
        for (String clause : rule.split(";")) {
            String body = clause.substring(2);
            int cut = body.indexOf('?');
            if (cut < 0 || holds(body.substring(0, cut), letters)) return sum(body.substring(cut + 1), letters);
        }
        return 0;
    }

    int kept(Town t, int rule, int n) {
        int steps = 0;
        for (int m = 0; m < n; m++) {
            for (int p = 0; p < ropes(); p++) {
                Rope r = t.ropes.get(p);
                int d = height(t, 2 * p) - height(t, 2 * p + 1);
                r.on = worth(rules.get(rule), new int[] {pull(t, p), r.now, r.l, r.h, d, m, p}) <= 0;
            }
            steps += minute(t, true);
        }
        return steps;
    }

    boolean noKeeping(int rule, int n) {
        return ropes() == 0 || rule < 0 || rule >= rules.size() || n < 1 || n > 60;
    }

    int keep(int rule, int n) {
        return noKeeping(rule, n) ? NONE : kept(town, rule, n);
    }

    int tried(int rule, int n, int what) {
        if (noKeeping(rule, n) || what < 0 || what > 1) return NONE;
        Town t = town.copy();
        int before = 0;
        int after = 0;
        for (Rope r : t.ropes) before += r.travel;
        kept(t, rule, n);
        for (Rope r : t.ropes) after += r.travel;
        return what == 0 ? after - before : so(t, wanted);
    }

    int best(int n) {
        int best = NONE;
        for (int i = rules.size() - 1; i >= 0; i--) {
            if (noKeeping(i, n)) return NONE;
            if (best == NONE) {
                best = i;
                continue;
            }
            int more = tried(i, n, 1) - tried(best, n, 1);
            if (more > 0 || more == 0 && tried(i, n, 0) <= tried(best, n, 0)) best = i;
        }
        return best;
    }

    int feast(int some) {
        if (some <= 0 || some >= 1 << 2 * ropes()) return NONE;
        List<int[]> all = allHeights();
        if (all == null) return TOO_DEAR;
        int least = 1000;
        for (int[] h : all) {
            int at = h[Integer.numberOfTrailingZeros(some)];
            boolean alike = true;
            for (int r = 0; r < h.length; r++) if ((some >> r & 1) != 0 && h[r] != at) alike = false;
            if (alike) least = Math.min(least, at);
        }
        return least == 1000 ? NONE : least;
    }

    int groupOf(int place) {
        int bits = 1 << place;
        for (int round = 0; round < 18; round++) {
            for (int a = 0; a < 18; a++) {
                for (int b = 0; b < 18; b++) {
                    if ((bits >> a & 1) != 0 && beside[a][b] && meets(town, a, b)) bits |= 1 << b;
                }
            }
        }
        return bits;
    }

    int group(int place) {
        if (ropes() == 0 || place != NONE && !isPlace(place)) return NONE;
        if (place != NONE) return groupOf(place);
        int n = 0;
        for (int i = 0; i < 18; i++) if (isPlace(i) && Integer.numberOfTrailingZeros(groupOf(i)) == i) n++;
        return n;
    }

    int often(int one, int other, int n, int what) {
        if (!isPlace(one) || !isPlace(other) || one == other || n < 0 || n > 60) return HIDDEN;
        if (what < 0 || what > 2) return HIDDEN;
        List<Integer> when = new ArrayList<>();
        Town t = town.copy();
        for (int m = 0; m <= n; m++) {
            if (meets(t, one, other)) when.add(m);
            minute(t, false);
        }
        if (what == 0) return when.size();
        return when.isEmpty() ? NONE : when.get(what == 1 ? 0 : when.size() - 1);
    }

    void fall(int rope, List<Integer> fallen) {
        for (int r = 2 * rope; r <= 2 * rope + 1; r++) {
            fallen.add(r);
            for (int q = 0; q < ropes(); q++) if (town.ropes.get(q).u == r) fall(q, fallen);
        }
    }

    int cut(int rope, int what) {
        if (!isRope(rope) || what < 0 || what > 1) return NONE;
        List<Integer> fallen = new ArrayList<>();
        fall(rope, fallen);
        int bits = 0;
        int sum = 0;
        for (int r : fallen) {
            bits |= 1 << r;
            sum += height(town, r);
        }
        return what == 0 ? bits : sum;
    }

    int load(int room) {
        if (!isRoom(room)) return NONE;
        int most = NONE;
        for (int v = 0; v <= 99; v++) {
            Town t = town.copy();
            t.water[room] = v;
            if (minute(t, false) == 0) most = v;
        }
        return most;
    }

    int strainOf(int p) {
        Rope r = town.ropes.get(p);
        return bears(town, 2 * p) + bears(town, 2 * p + 1) + r.r * r.l;
    }

    int strain(int rope) {
        if (ropes() == 0 || rope != NONE && !isRope(rope)) return NONE;
        if (rope != NONE) return strainOf(rope);
        int best = ropes() - 1;
        for (int p = ropes() - 1; p >= 0; p--) if (strainOf(p) >= strainOf(best)) best = p;
        return best;
    }

    int above(int room) {
        if (!isRoom(room)) return NONE;
        int bits = 0;
        for (int r = 0; r < 2 * ropes(); r++) if (height(town, r) > height(town, room)) bits |= 1 << r;
        return bits;
    }

    int sway(int rope, int n, int k) {
        if (!isRope(rope) || n < 1 || n > 60 || k < 1 || k > 20) return NONE;
        Town calm = town.copy();
        for (int m = 0; m < n; m++) minute(calm, false);
        int count = 0;
        for (int seed = 0; seed < k; seed++) {
            Town t = town.copy();
            t.draws = seed;
            for (int m = 0; m < n; m++) minute(t, true);
            if (t.ropes.get(rope).now != calm.ropes.get(rope).now) count++;
        }
        return count;
    }

    int image() {
        if (ropes() == 0) return NONE;
        image = town.copy();
        return town.minutes;
    }

    int back() {
        if (image == null) return NONE;
        List<Integer> at = town.at;
        town = image.copy();
        for (int i = town.at.size(); i < at.size(); i++) town.at.add(at.get(i));
        return town.minutes;
    }

    int count(int what) {
        int[] all = {ropes(), rules.size(), tape.length(), town.minutes, galleries.size(), weights.size(), tasks.size()};
        return what < 0 || what > 6 ? HIDDEN : all[what];
    }
}
