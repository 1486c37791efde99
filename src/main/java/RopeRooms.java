import java.util.NoSuchElementException;

/** Houses on one rope: rooms that hang in pairs over pulleys. The document's promises are kept one method each. */
public final class RopeRooms {
    public static final int NONE = -1;
    public static final int HIDDEN = -1000000;

    private static final int TAPE = 160;
    private static final int ROPES = 6;
    private static final int ROOMS = 12;
    private static final int GALLERIES = 6;
    private static final int PLACES = 18;
    private static final int PERSONS = 8;
    private static final int TASKS = 6;
    private static final int RULES = 4;
    private static final int LONGEST = 60;
    private static final int MOST_WATER = 99;

    private final Tape tape = new Tape();
    private Plan plan = new Plan();
    private Plan draft = new Plan();
    private final State now = new State();
    private final State side = new State();
    private final State kept = new State();
    private boolean imaged;
    private int imagedPersons;
    private final Folk folk = new Folk();
    private final Works works = new Works();
    private final int[] wanted = new int[ROOMS];
    private final int[] seen = new int[ROOMS];
    private final Rule[] rules = new Rule[RULES];
    private Rule spare = new Rule();
    private int ruleCount;
    private final int[] letters = new int[Rule.LETTERS];
    private final Pails carried = new Pails();
    private final Fit fit = new Fit();
    private final Orders tries = new Orders();

    public RopeRooms() {
        // A plan without ROPES is no TOWN: all rows are made here, and used again by every call.
        plan.ropes = 0;
    }

    // ---- the TAPE and what is told by it

    public int feed(int a, int b, int c, int d, int e) {
        int more = Tape.told(a) + Tape.told(b) + Tape.told(c) + Tape.told(d) + Tape.told(e);
        if (tape.length + more > TAPE) {
            return NONE;
        }
        tape.add(a);
        tape.add(b);
        tape.add(c);
        tape.add(d);
        tape.add(e);
        return tape.length;
    }

    public boolean end(int n) {
        if (n < 0 || n > tape.length) {
            return false;
        }
        tape.length = n;
        return true;
    }

    public int fault(int sort) {
        if (sort == 0) {
            TownText.read(tape, draft);
            return tape.fault;
        }
        if (sort == 1) {
            spare.read(tape);
            return tape.fault;
        }
        return -2;
    }

    public int text(int sort, long seed) {
        if (sort == 0) {
            return newTown(seed);
        }
        if (sort == 1) {
            return newRule();
        }
        return NONE;
    }

    private int newTown(long seed) {
        TownText.read(tape, draft);
        if (tape.fault != NONE) {
            return NONE;
        }
        Plan old = plan;
        plan = draft;
        draft = old;
        tape.length = 0;
        now.begin(plan, seed);
        folk.leave();
        for (int r = 0; r < ROOMS; r++) {
            wanted[r] = NONE;
            seen[r] = NONE;
        }
        imaged = false;
        return plan.ropes;
    }

    private int newRule() {
        if (ruleCount >= RULES) {
            return NONE;
        }
        spare.read(tape);
        if (tape.fault != NONE) {
            return NONE;
        }
        rules[ruleCount] = spare;
        spare = new Rule();
        tape.length = 0;
        ruleCount++;
        return ruleCount - 1;
    }

    // ---- ROPES and rooms

    private boolean isRope(int rope) {
        return rope >= 0 && rope < plan.ropes;
    }

    private boolean isRoom(int room) {
        return room >= 0 && room < 2 * plan.ropes;
    }

    private boolean isPlace(int place) {
        return isRoom(place) || place >= ROOMS && place < ROOMS + folk.galleries;
    }

    private boolean isPerson(int person) {
        return person >= 0 && person < folk.persons;
    }

    private static boolean isSpan(int n, int least) {
        return n >= least && n <= LONGEST;
    }

    public int rope(int rope, int what) throws NoSuchElementException {
        if (!isRope(rope) || what < 0 || what > 9) {
            throw new NoSuchElementException("no such rope, or nothing of it by this number");
        }
        switch (what) {
            case 0: return plan.kind[rope];
            case 1: return plan.length[rope];
            case 2: return now.x[rope];
            case 3: return plan.hold[rope];
            case 4: return plan.slip[rope];
            case 5: return plan.hangs[rope];
            case 6: return now.on[rope] ? 1 : 0;
            case 7: return now.travel[rope];
            case 8: return pullNow(rope);
            default: return plan.heavy[rope];
        }
    }

    private int pullNow(int rope) {
        works.weigh(plan, now, folk);
        return works.pull(plan, rope, now.x[rope]);
    }

    public int room(int room, int what) {
        if (!isRoom(room)) {
            return HIDDEN;
        }
        switch (what) {
            case 0: return heightNow(room);
            case 1: return plan.weight[room];
            case 2: return bearsNow(room);
            case 3: return now.water[room];
            default: return HIDDEN;
        }
    }

    private int heightNow(int place) {
        return works.height(plan, now, folk, place);
    }

    private int bearsNow(int room) {
        works.weigh(plan, now, folk);
        return works.bears[room];
    }

    public boolean brake(int rope, boolean on) {
        if (!isRope(rope)) {
            return false;
        }
        now.on[rope] = on;
        return true;
    }

    public boolean water(int room, int v) {
        if (!isRoom(room) || v < 0 || v > MOST_WATER) {
            return false;
        }
        now.water[room] = v;
        return true;
    }

    public int turn(int rope, int n) {
        if (!isRope(rope) || plan.kind[rope] != Plan.SCREW || n < -20 || n > 20) {
            return NONE;
        }
        now.x[rope] = Math.max(0, Math.min(plan.length[rope], now.x[rope] + n));
        return now.x[rope];
    }

    // ---- MINUTES

    /** The state on the side becomes that of the TOWN as it is, weighed, so that MINUTES can be tried on it. */
    private void setAside() {
        side.take(now);
        works.weigh(plan, side, folk);
    }

    public int minutes(int n) {
        if (plan.ropes == 0 || !isSpan(n, 1)) {
            return NONE;
        }
        works.weigh(plan, now, folk);
        int steps = works.goOn(plan, now, n, true);
        now.minutes += n;
        return steps;
    }

    public int rest() {
        if (plan.ropes == 0) {
            return NONE;
        }
        works.weigh(plan, now, folk);
        int n = works.settle(plan, now);
        now.minutes += n;
        return n;
    }

    // ---- PLACES and PERSONS

    public int gallery(int height) {
        if (plan.ropes == 0 || height < 0 || height > 60 || folk.galleries >= GALLERIES) {
            return NONE;
        }
        folk.galleryHeight[folk.galleries] = height;
        folk.galleries++;
        return ROOMS + folk.galleries - 1;
    }

    public boolean beside(int one, int other, boolean is) {
        if (!isPlace(one) || !isPlace(other) || one == other) {
            return false;
        }
        folk.join(one, other, is);
        return true;
    }

    public int meet(int one, int other) {
        if (!isPlace(one) || !isPlace(other) || one == other) {
            return NONE;
        }
        return works.meeting(plan, now, folk, one, other) ? 1 : 0;
    }

    public int person(int weight, int place) {
        if (weight < 1 || weight > 9 || !isPlace(place) || folk.persons >= PERSONS) {
            return NONE;
        }
        folk.weight[folk.persons] = weight;
        now.at[folk.persons] = place;
        folk.persons++;
        return folk.persons - 1;
    }

    public boolean step(int person, int place) {
        if (!isPerson(person) || !isPlace(place)) {
            return false;
        }
        if (!works.meeting(plan, now, folk, now.at[person], place)) {
            return false;
        }
        now.at[person] = place;
        return true;
    }

    public int where(int person) {
        return isPerson(person) ? now.at[person] : NONE;
    }

    public int way(int from, int to) {
        if (!isPlace(from) || !isPlace(to)) {
            return NONE;
        }
        setAside();
        int reached = 1 << from;
        for (int t = 0; t <= LONGEST; t++) {
            works.level(plan, side, folk);
            reached = folk.spread(reached, works.high);
            if ((reached >> to & 1) != 0) {
                return t;
            }
            if (works.minute(plan, side, false) == 0) {
                return NONE;
            }
        }
        return NONE;
    }

    public int unseen(int one, int other, int n) {
        if (!isRoom(one) || !isRoom(other) || one == other || !isSpan(n, 0)) {
            return HIDDEN;
        }
        setAside();
        for (int t = 0; t <= n; t++) {
            if (works.height(plan, side, folk, one) == works.height(plan, side, folk, other)) {
                return t;
            }
            works.minute(plan, side, false);
        }
        return NONE;
    }

    // ---- WANTED heights

    public boolean want(int room, int height) {
        if (!isRoom(room) || height < NONE || height > 200) {
            return false;
        }
        wanted[room] = height;
        return true;
    }

    public int pails(int room) {
        if (plan.ropes == 0 || room != NONE && !isRoom(room)) {
            return HIDDEN;
        }
        works.weigh(plan, now, folk);
        int n = carried.fewest(plan, now, works, wanted);
        if (n == NONE) {
            return HIDDEN;
        }
        return room == NONE ? n : carried.given[room];
    }

    public int together(int what) {
        if (plan.ropes == 0 || what < 0 || what > 1) {
            return NONE;
        }
        int out = fit.leaveOut(plan, wanted);
        if (what == 1) {
            return out;
        }
        return out == 0 ? 1 : 0;
    }

    public int task(int person, int place) {
        if (!isPerson(person) || !isPlace(place) || folk.tasks >= TASKS) {
            return NONE;
        }
        folk.taskPerson[folk.tasks] = person;
        folk.taskPlace[folk.tasks] = place;
        folk.tasks++;
        return folk.tasks;
    }

    public int orders(int what) {
        if (folk.tasks == 0 || what < 0 || what > 1) {
            return NONE;
        }
        tries.find(plan, now, folk, works);
        return what == 0 ? tries.found : tries.first;
    }

    // ---- what was SEEN, RENT, EVEN

    public boolean woke(int room, int height) {
        if (!isRoom(room) || height < NONE || height > 200) {
            return false;
        }
        seen[room] = height;
        return true;
    }

    public int slipped(int n) {
        if (plan.ropes == 0 || !isSpan(n, 1)) {
            return NONE;
        }
        int bits = 0;
        for (int p = 0; p < plan.ropes; p++) {
            setAside();
            side.on[p] = false;
            works.goOn(plan, side, n, false);
            if (works.countAt(plan, side, folk, seen) == told(seen)) {
                bits |= 1 << p;
            }
        }
        return bits;
    }

    private int told(int[] heights) {
        int n = 0;
        for (int r = 0; r < 2 * plan.ropes; r++) {
            if (heights[r] != NONE) {
                n++;
            }
        }
        return n;
    }

    public int rent(int room, int price) {
        if (price < 0 || price > 99 || room != NONE && !isRoom(room)) {
            return NONE;
        }
        if (room != NONE) {
            return price * heightNow(room);
        }
        int sum = 0;
        for (int r = 0; r < 2 * plan.ropes; r++) {
            sum += price * heightNow(r);
        }
        return sum;
    }

    public int even(int what) {
        if (plan.ropes == 0 || what < 0 || what > 1) {
            return NONE;
        }
        works.level(plan, now, folk);
        int rooms = 2 * plan.ropes;
        int bestHeight = 0;
        int most = 0;
        for (int r = 0; r < rooms; r++) {
            int height = works.high[r];
            int n = 0;
            for (int q = 0; q < rooms; q++) {
                n += works.high[q] == height ? 1 : 0;
            }
            if (n > most || n == most && height < bestHeight) {
                most = n;
                bestHeight = height;
            }
        }
        return what == 0 ? bestHeight : most;
    }

    // ---- RULES

    private Rule ruleAt(int rule) {
        return rule >= 0 && rule < ruleCount ? rules[rule] : null;
    }

    /** MINUTES of a state whose BRAKES a RULE sets ahead of each: the steps of all ROPES. */
    private int goByRule(State state, Rule rule, int n) {
        works.weigh(plan, state, folk);
        int steps = 0;
        for (int t = 0; t < n; t++) {
            for (int p = 0; p < plan.ropes; p++) {
                tellLetters(state, p, t);
                state.on[p] = rule.worth(letters) <= 0;
            }
            steps += works.minute(plan, state, true);
        }
        state.minutes += n;
        return steps;
    }

    private void tellLetters(State state, int p, int t) {
        int x = state.x[p];
        letters[0] = works.pull(plan, p, x);
        letters[1] = x;
        letters[2] = plan.length[p];
        letters[3] = plan.hold[p];
        letters[4] = x - plan.place(2 * p + 1, x);
        letters[5] = t;
        letters[6] = p;
    }

    public int keep(int rule, int n) {
        Rule r = ruleAt(rule);
        if (plan.ropes == 0 || r == null || !isSpan(n, 1)) {
            return NONE;
        }
        return goByRule(now, r, n);
    }

    public int tried(int rule, int n, int what) {
        Rule r = ruleAt(rule);
        if (plan.ropes == 0 || r == null || !isSpan(n, 1) || what < 0 || what > 1) {
            return NONE;
        }
        side.take(now);
        int steps = goByRule(side, r, n);
        return what == 0 ? steps : works.countAt(plan, side, folk, wanted);
    }

    public int best(int n) {
        if (plan.ropes == 0 || !isSpan(n, 1)) {
            return NONE;
        }
        int winner = NONE;
        int mostSo = 0;
        int leastSteps = 0;
        for (int i = 0; i < ruleCount; i++) {
            Rule r = ruleAt(i);
            if (r == null) {
                return NONE;
            }
            side.take(now);
            int steps = goByRule(side, r, n);
            int so = works.countAt(plan, side, folk, wanted);
            if (winner == NONE || so > mostSo || so == mostSo && steps < leastSteps) {
                winner = i;
                mostSo = so;
                leastSteps = steps;
            }
        }
        return winner;
    }

    // ---- FEAST, GROUPS, OFTEN

    public int feast(int some) {
        if (some == 0 || some >> 2 * plan.ropes != 0) {
            return NONE;
        }
        return fit.lowest(plan, some);
    }

    public int group(int place) {
        if (plan.ropes == 0 || place != NONE && !isPlace(place)) {
            return NONE;
        }
        works.level(plan, now, folk);
        if (place != NONE) {
            return folk.spread(1 << place, works.high);
        }
        int groups = 0;
        int covered = 0;
        for (int i = 0; i < PLACES; i++) {
            if (isPlace(i) && (covered >> i & 1) == 0) {
                covered |= folk.spread(1 << i, works.high);
                groups++;
            }
        }
        return groups;
    }

    public int often(int one, int other, int n, int what) {
        if (!isPlace(one) || !isPlace(other) || one == other) {
            return HIDDEN;
        }
        if (!isSpan(n, 0) || what < 0 || what > 2) {
            return HIDDEN;
        }
        setAside();
        int times = 0;
        int first = NONE;
        int last = NONE;
        for (int t = 0; t <= n; t++) {
            if (works.meeting(plan, side, folk, one, other)) {
                times++;
                first = first == NONE ? t : first;
                last = t;
            }
            works.minute(plan, side, false);
        }
        if (what == 0) {
            return times;
        }
        return what == 1 ? first : last;
    }

    // ---- CUT, LOAD, STRAIN, ABOVE, SWAY

    public int cut(int rope, int what) {
        if (!isRope(rope) || what < 0 || what > 1) {
            return NONE;
        }
        int fall = plan.falling(rope);
        if (what == 0) {
            return fall;
        }
        int sum = 0;
        for (int r = 0; r < 2 * plan.ropes; r++) {
            if ((fall >> r & 1) != 0) {
                sum += heightNow(r);
            }
        }
        return sum;
    }

    public int load(int room) {
        if (!isRoom(room)) {
            return NONE;
        }
        side.take(now);
        for (int v = MOST_WATER; v >= 0; v--) {
            side.water[room] = v;
            works.weigh(plan, side, folk);
            if (works.isStill(plan, side)) {
                return v;
            }
        }
        return NONE;
    }

    public int strain(int rope) {
        if (plan.ropes == 0 || rope != NONE && !isRope(rope)) {
            return NONE;
        }
        works.weigh(plan, now, folk);
        if (rope != NONE) {
            return works.strainOf(plan, rope);
        }
        int most = 0;
        for (int p = 1; p < plan.ropes; p++) {
            if (works.strainOf(plan, p) > works.strainOf(plan, most)) {
                most = p;
            }
        }
        return most;
    }

    public int above(int room) {
        if (!isRoom(room)) {
            return NONE;
        }
        works.level(plan, now, folk);
        int bits = 0;
        for (int r = 0; r < 2 * plan.ropes; r++) {
            if (works.high[r] > works.high[room]) {
                bits |= 1 << r;
            }
        }
        return bits;
    }

    public int sway(int rope, int n, int k) {
        if (!isRope(rope) || !isSpan(n, 1) || k < 1 || k > 20) {
            return NONE;
        }
        setAside();
        works.goOn(plan, side, n, false);
        int calm = side.x[rope];
        int elsewhere = 0;
        for (int seed = 0; seed < k; seed++) {
            side.take(now);
            side.draws = seed;
            works.goOn(plan, side, n, true);
            if (side.x[rope] != calm) {
                elsewhere++;
            }
        }
        return elsewhere;
    }

    // ---- IMAGES and counts

    public int image() {
        if (plan.ropes == 0) {
            return NONE;
        }
        kept.take(now);
        imaged = true;
        imagedPersons = folk.persons;
        return now.minutes;
    }

    public int back() {
        if (!imaged) {
            return NONE;
        }
        // PERSONS who came behind the IMAGE are not in it: they stay where they are.
        for (int i = imagedPersons; i < folk.persons; i++) {
            kept.at[i] = now.at[i];
        }
        now.take(kept);
        return now.minutes;
    }

    public int count(int what) {
        switch (what) {
            case 0: return plan.ropes;
            case 1: return ruleCount;
            case 2: return tape.length;
            case 3: return now.minutes;
            case 4: return folk.galleries;
            case 5: return folk.persons;
            case 6: return folk.tasks;
            default: return HIDDEN;
        }
    }

    /** The bytes told so far, and a cursor for whoever reads them. */
    private static final class Tape {
        // A byte of 0 never comes to the TAPE, so it can stand for its end.
        static final int END = 0;

        final int[] bytes = new int[TAPE];
        int length;
        int at;
        int fault = NONE;

        /** How many bytes a word brings. */
        static int told(int word) {
            int n = 0;
            for (int shift = 24; shift >= 0; shift -= 8) {
                if ((word >> shift & 255) != 0) {
                    n++;
                }
            }
            return n;
        }

        void add(int word) {
            for (int shift = 24; shift >= 0; shift -= 8) {
                int one = word >> shift & 255;
                if (one != 0 && length < TAPE) {
                    bytes[length] = one;
                    length++;
                }
            }
        }

        void open() {
            at = 0;
            fault = NONE;
        }

        boolean isWrong() {
            return fault != NONE;
        }

        /** The cursor's byte can't stand there; what was wrong ahead of it counts. */
        void wrong() {
            if (fault == NONE) {
                fault = at;
            }
        }

        /** The next sign behind blanks; it is not taken. */
        int sign() {
            while (at >= 0 && at < length && bytes[at] == ' ') {
                at++;
            }
            return at >= 0 && at < length ? bytes[at] : END;
        }

        /** Takes one sign, which is wrong if it is another. */
        void takeSign(int due) {
            if (isWrong()) {
                return;
            }
            if (sign() == due) {
                at++;
            } else {
                wrong();
            }
        }

        private int digit() {
            int one = at >= 0 && at < length ? bytes[at] : END;
            return one >= '0' && one <= '9' ? one - '0' : NONE;
        }

        /** A number of one digit to so many; one digit more is wrong itself. */
        int number(int digits) {
            int value = 0;
            sign();
            if (digit() == NONE) {
                wrong();
                return 0;
            }
            for (int i = 0; i < digits && digit() != NONE; i++) {
                value = 10 * value + digit();
                at++;
            }
            if (digit() != NONE) {
                wrong();
            }
            return value;
        }
    }

    /** A TOWN as it was told: what no call changes. */
    private static final class Plan {
        static final int PLAIN = 0;
        static final int GEARED = 1;
        static final int SCREW = 2;

        int ropes;
        final int[] kind = new int[ROPES];
        final int[] length = new int[ROPES];
        final int[] start = new int[ROPES];
        final int[] weight = new int[ROOMS];
        final int[] hold = new int[ROPES];
        final int[] slip = new int[ROPES];
        final int[] heavy = new int[ROPES];
        final int[] hangs = new int[ROPES];

        void untold(int p) {
            kind[p] = PLAIN;
            length[p] = 10;
            start[p] = 0;
            weight[2 * p] = 10;
            weight[2 * p + 1] = 10;
            hold[p] = 5;
            slip[p] = 0;
            heavy[p] = 0;
            hangs[p] = NONE;
        }

        /** Whether a number is within the bounds of its letter, by what has been told of the ROPE so far. */
        boolean allows(int p, int letter, int v) {
            switch (letter) {
                case 'k': return v <= SCREW;
                case 'l': return v >= 2 && v <= 20 && v >= start[p];
                case 'x': return v <= length[p];
                case 'a': return v >= 1 && v <= 99;
                case 'b': return v >= 1 && v <= 99;
                case 'h': return v <= 99;
                case 's': return v <= 100;
                case 'r': return v <= 9;
                default: return v <= 2 * p - 1;
            }
        }

        void tell(int p, int letter, int v) {
            switch (letter) {
                case 'k': kind[p] = v; break;
                case 'l': length[p] = v; break;
                case 'x': start[p] = v; break;
                case 'a': weight[2 * p] = v; break;
                case 'b': weight[2 * p + 1] = v; break;
                case 'h': hold[p] = v; break;
                case 's': slip[p] = v; break;
                case 'r': heavy[p] = v; break;
                default: hangs[p] = v; break;
            }
        }

        boolean isUneven(int p) {
            return kind[p] == GEARED && ((length[p] | start[p]) & 1) != 0;
        }

        int stride(int p) {
            return kind[p] == GEARED ? 2 : 1;
        }

        /** Where a room is above the foot of its ROPE. */
        int place(int room, int x) {
            if ((room & 1) == 0) {
                return x;
            }
            int p = room >> 1;
            return kind[p] == GEARED ? (length[p] - x) / 2 : length[p] - x;
        }

        /** How often what a room BEARS counts in the PULL of its ROPE. */
        int lever(int room) {
            int p = room >> 1;
            if (kind[p] == SCREW) {
                return 0;
            }
            if ((room & 1) != 0) {
                return -1;
            }
            return kind[p] == GEARED ? 2 : 1;
        }

        /** The room on which a room's ROPE hangs, or NONE. */
        int carrier(int room) {
            return room >= 0 && room < ROOMS ? hangs[room >> 1] : NONE;
        }

        int falling(int rope) {
            int fall = 3 << 2 * rope;
            // A ROPE hangs on one of a lower number, so one pass upwards finds all.
            for (int p = rope + 1; p < ropes; p++) {
                if (hangs[p] >= 0 && (fall >> hangs[p] & 1) != 0) {
                    fall |= 3 << 2 * p;
                }
            }
            return fall;
        }
    }

    /** Reads the TAPE as a TOWN; the FAULT is left at the TAPE. */
    private static final class TownText {
        private static final int LETTERS = 9;

        static void read(Tape tape, Plan plan) {
            tape.open();
            for (int p = 0; p < ROPES; p++) {
                readRope(tape, plan, p);
                if (tape.isWrong() || tape.sign() == Tape.END) {
                    plan.ropes = p + 1;
                    return;
                }
                if (p == ROPES - 1) {
                    tape.wrong();
                    return;
                }
                tape.at++;
            }
        }

        private static void readRope(Tape tape, Plan plan, int p) {
            plan.untold(p);
            int told = 0;
            // Each letter stands once, so one round more than there are letters ends in a FAULT.
            for (int i = 0; i <= LETTERS; i++) {
                int letter = tape.sign();
                int bit = bitOf(letter);
                if (bit == 0 || (told & bit) != 0 || letter == 'u' && p == 0) {
                    tape.wrong();
                    return;
                }
                told |= bit;
                tape.at++;
                readNumber(tape, plan, p, letter);
                if (tape.isWrong()) {
                    return;
                }
                if (tape.sign() != ',') {
                    endRope(tape, plan, p);
                    return;
                }
                tape.at++;
            }
        }

        private static void readNumber(Tape tape, Plan plan, int p, int letter) {
            int v = tape.number(3);
            if (tape.isWrong()) {
                return;
            }
            if (plan.allows(p, letter, v)) {
                plan.tell(p, letter, v);
            } else {
                tape.fault = tape.at - 1;
            }
        }

        private static void endRope(Tape tape, Plan plan, int p) {
            int sign = tape.sign();
            if (sign != ';' && sign != Tape.END || plan.isUneven(p)) {
                tape.wrong();
            }
        }

        private static int bitOf(int letter) {
            switch (letter) {
                case 'k': return 1;
                case 'l': return 2;
                case 'x': return 4;
                case 'a': return 8;
                case 'b': return 16;
                case 'h': return 32;
                case 's': return 64;
                case 'r': return 128;
                case 'u': return 256;
                default: return 0;
            }
        }
    }

    /** What changes in a TOWN, and what an IMAGE keeps. */
    private static final class State {
        final int[] x = new int[ROPES];
        final int[] travel = new int[ROPES];
        final boolean[] on = new boolean[ROPES];
        final int[] water = new int[ROOMS];
        final int[] at = new int[PERSONS];
        int minutes;
        long draws;

        void begin(Plan plan, long seed) {
            for (int p = 0; p < ROPES; p++) {
                x[p] = plan.start[p];
                travel[p] = 0;
                on[p] = true;
                water[2 * p] = 0;
                water[2 * p + 1] = 0;
            }
            minutes = 0;
            draws = seed;
        }

        void take(State other) {
            System.arraycopy(other.x, 0, x, 0, ROPES);
            System.arraycopy(other.travel, 0, travel, 0, ROPES);
            System.arraycopy(other.water, 0, water, 0, ROOMS);
            System.arraycopy(other.at, 0, at, 0, PERSONS);
            for (int p = 0; p < ROPES; p++) {
                on[p] = other.on[p];
            }
            minutes = other.minutes;
            draws = other.draws;
        }

        int draw() {
            draws = draws * 6364136223846793005L + 1442695040888963407L;
            return (int) ((draws >>> 33) % 100);
        }
    }

    /** GALLERIES, who is BESIDE whom, PERSONS and their TASKS; where PERSONS are is told by a State. */
    private static final class Folk {
        int galleries;
        final int[] galleryHeight = new int[GALLERIES];
        final int[] neighbours = new int[PLACES];
        int persons;
        final int[] weight = new int[PERSONS];
        int tasks;
        final int[] taskPerson = new int[TASKS];
        final int[] taskPlace = new int[TASKS];

        void leave() {
            galleries = 0;
            persons = 0;
            tasks = 0;
            for (int i = 0; i < PLACES; i++) {
                neighbours[i] = 0;
            }
        }

        void join(int one, int other, boolean is) {
            if (is) {
                neighbours[one] |= 1 << other;
                neighbours[other] |= 1 << one;
            } else {
                neighbours[one] &= ~(1 << other);
                neighbours[other] &= ~(1 << one);
            }
        }

        private int level(int place, int[] high) {
            int bits = 0;
            for (int i = 0; i < PLACES; i++) {
                if ((neighbours[place] >> i & 1) != 0 && high[i] == high[place]) {
                    bits |= 1 << i;
                }
            }
            return bits;
        }

        /** All PLACES to which steps lead from some, with the heights of all. */
        int spread(int from, int[] high) {
            int reached = from;
            int fresh = from;
            for (int round = 0; round < PLACES && fresh != 0; round++) {
                int more = 0;
                for (int i = 0; i < PLACES; i++) {
                    if ((fresh >> i & 1) != 0) {
                        more |= level(i, high);
                    }
                }
                fresh = more & ~reached;
                reached |= more;
            }
            return reached;
        }
    }

    /** The mechanics: what rooms BEAR, how ROPES PULL and go, how high PLACES are. */
    private static final class Works {
        /** Ways of the first room to REST, as bits. */
        static final int HELD = 1;
        static final int DOWN = 2;
        static final int UP = 4;

        final int[] bears = new int[ROOMS];
        /** PULL but for what a heavy rope adds, which alone changes as it goes. */
        final int[] lean = new int[ROPES];
        final int[] high = new int[PLACES];

        /** What rooms BEAR and how ROPES lean; no MINUTE changes it, only WATER and PERSONS do. */
        void weigh(Plan plan, State state, Folk folk) {
            int rooms = 2 * plan.ropes;
            for (int r = 0; r < rooms; r++) {
                bears[r] = plan.weight[r] + state.water[r];
            }
            for (int i = 0; i < folk.persons; i++) {
                int place = state.at[i];
                if (place >= 0 && place < rooms) {
                    bears[place] += folk.weight[i];
                }
            }
            // From the highest number down each room is whole when it is added to the one that carries it.
            for (int p = plan.ropes - 1; p >= 0; p--) {
                int first = 2 * p;
                int second = first + 1;
                lean[p] = plan.lever(first) * bears[first] + plan.lever(second) * bears[second];
                int on = plan.hangs[p];
                if (on >= 0 && on < rooms) {
                    bears[on] += bears[first] + bears[second];
                }
            }
        }

        int pull(Plan plan, int p, int x) {
            if (plan.kind[p] != Plan.PLAIN) {
                return lean[p];
            }
            return lean[p] + plan.heavy[p] * (plan.length[p] - 2 * x);
        }

        /** 1 if the first room is to go up, -1 if down, 0 if the ROPE is held. */
        private int heading(Plan plan, int p, int x, boolean free) {
            int pull = pull(plan, p, x);
            if (!free && Math.abs(pull) <= plan.hold[p]) {
                return 0;
            }
            return -Integer.signum(pull);
        }

        /** One MINUTE behind weigh: how many ROPES went. */
        int minute(Plan plan, State state, boolean slips) {
            int steps = 0;
            for (int p = 0; p < plan.ropes; p++) {
                boolean free = !state.on[p];
                if (slips && !free && plan.slip[p] > 0) {
                    free = state.draw() < plan.slip[p];
                }
                int next = state.x[p] + heading(plan, p, state.x[p], free) * plan.stride(p);
                if (next != state.x[p] && next >= 0 && next <= plan.length[p]) {
                    state.x[p] = next;
                    state.travel[p]++;
                    steps++;
                }
            }
            return steps;
        }

        int goOn(Plan plan, State state, int n, boolean slips) {
            int steps = 0;
            for (int t = 0; t < n; t++) {
                steps += minute(plan, state, slips);
            }
            return steps;
        }

        /** X at REST: what goes pulls ever harder the same way (a heavy rope too), so it goes to its end. */
        int restingX(Plan plan, State state, int p) {
            int to = heading(plan, p, state.x[p], !state.on[p]);
            if (to == 0) {
                return state.x[p];
            }
            return to < 0 ? 0 : plan.length[p];
        }

        /** The ways in which a ROPE can go to REST, if what its rooms BEAR changes by so much at most. */
        int waysWithin(Plan plan, State state, int p, int change) {
            int held = state.on[p] ? plan.hold[p] : 0;
            int pull = pull(plan, p, state.x[p]);
            int slack = plan.kind[p] == Plan.SCREW ? 0 : change * plan.stride(p);
            int ways = pull + slack > held ? DOWN : 0;
            if (pull - slack < -held) {
                ways |= UP;
            }
            if (pull - slack <= held && pull + slack >= -held) {
                ways |= HELD;
            }
            return ways;
        }

        /** To REST, behind weigh: how many MINUTES. */
        int settle(Plan plan, State state) {
            int most = 0;
            for (int p = 0; p < plan.ropes; p++) {
                int to = restingX(plan, state, p);
                int steps = Math.abs(to - state.x[p]);
                if (plan.stride(p) == 2) {
                    steps /= 2;
                }
                state.x[p] = to;
                state.travel[p] += steps;
                most = Math.max(most, steps);
            }
            return most;
        }

        boolean isStill(Plan plan, State state) {
            for (int p = 0; p < plan.ropes; p++) {
                if (restingX(plan, state, p) != state.x[p]) {
                    return false;
                }
            }
            return true;
        }

        int strainOf(Plan plan, int p) {
            return bears[2 * p] + bears[2 * p + 1] + plan.heavy[p] * plan.length[p];
        }

        int height(Plan plan, State state, Folk folk, int place) {
            if (place >= ROOMS) {
                return place < PLACES ? folk.galleryHeight[place - ROOMS] : 0;
            }
            int sum = 0;
            int room = place;
            for (int i = 0; i < ROPES && room >= 0; i++) {
                sum += plan.place(room, state.x[room >> 1]);
                room = plan.carrier(room);
            }
            return sum;
        }

        /** The heights of all PLACES at once. */
        void level(Plan plan, State state, Folk folk) {
            for (int r = 0; r < 2 * plan.ropes; r++) {
                int on = plan.carrier(r);
                int foot = on >= 0 && on < r ? high[on] : 0;
                high[r] = foot + plan.place(r, state.x[r >> 1]);
            }
            for (int g = 0; g < folk.galleries; g++) {
                high[ROOMS + g] = folk.galleryHeight[g];
            }
        }

        boolean meeting(Plan plan, State state, Folk folk, int one, int other) {
            if (one < 0 || one >= PLACES || (folk.neighbours[one] >> other & 1) == 0) {
                return false;
            }
            return height(plan, state, folk, one) == height(plan, state, folk, other);
        }

        /** How many rooms are at heights told of them. */
        int countAt(Plan plan, State state, Folk folk, int[] heights) {
            level(plan, state, folk);
            int n = 0;
            for (int r = 0; r < 2 * plan.ropes; r++) {
                if (heights[r] != NONE && heights[r] == high[r]) {
                    n++;
                }
            }
            return n;
        }
    }

    /** A RULE for the keeper, turned into signs behind what they work on, and a stack to work them. */
    private static final class Rule {
        static final int LETTERS = 7;
        private static final int DEEPEST = 6;
        private static final int BOUND = 1000000;
        private static final int CODE = 192;
        private static final int STACK = 64;
        /** In the code a number stands for itself, a letter below 0, a sign from here on. */
        private static final int SIGNS = 10000;

        private final int[] code = new int[CODE];
        private int size;
        private final int[] stack = new int[STACK];

        /** Reads the TAPE; the FAULT is left at the TAPE. */
        void read(Tape tape) {
            size = 0;
            tape.open();
            for (int i = 0; i <= TAPE; i++) {
                clause(tape);
                if (tape.isWrong() || tape.sign() == Tape.END) {
                    return;
                }
                tape.takeSign(';');
            }
        }

        private void emit(int one) {
            if (size < CODE) {
                code[size] = one;
                size++;
            }
        }

        private void clause(Tape tape) {
            tape.takeSign('y');
            tape.takeSign(':');
            int sign = tape.sign();
            boolean begun = sign != '!' && sign != '(';
            if (begun) {
                sum(tape, 0);
            }
            if (!begun || isCompare(tape.sign())) {
                condition(tape, 0, begun);
                tape.takeSign('?');
                emit(SIGNS + '?');
                int jump = size;
                emit(0);
                sum(tape, 0);
                emit(SIGNS + ';');
                if (jump < CODE) {
                    code[jump] = size;
                }
            } else {
                emit(SIGNS + ';');
            }
        }

        private static boolean isCompare(int sign) {
            return sign == '=' || sign == '<' || sign == '>';
        }

        /** begun: the SUM with which it begins has been read. */
        private void condition(Tape tape, int depth, boolean begun) {
            unit(tape, depth, begun);
            boolean or = false;
            for (int i = 0; i < TAPE && !tape.isWrong(); i++) {
                int sign = tape.sign();
                if (sign != '&' && sign != '|') {
                    break;
                }
                tape.at++;
                // An | waits till the & behind it are worked.
                if (sign == '|' && or) {
                    emit(SIGNS + '|');
                }
                or |= sign == '|';
                unit(tape, depth, false);
                if (sign == '&') {
                    emit(SIGNS + '&');
                }
            }
            if (or) {
                emit(SIGNS + '|');
            }
        }

        private void unit(Tape tape, int depth, boolean begun) {
            int sign = tape.sign();
            if (tape.isWrong()) {
                return;
            }
            if (!begun && (sign == '!' || sign == '(')) {
                nested(tape, depth, sign);
                return;
            }
            if (!begun) {
                sum(tape, depth);
            }
            int compare = tape.sign();
            if (tape.isWrong() || !isCompare(compare)) {
                tape.wrong();
                return;
            }
            tape.at++;
            sum(tape, depth);
            emit(SIGNS + compare);
        }

        /** What stands behind one of the signs ( [ ! and, for two of them, its other half. */
        private void nested(Tape tape, int depth, int sign) {
            if (depth >= DEEPEST) {
                tape.wrong();
                return;
            }
            tape.at++;
            if (sign == '!') {
                unit(tape, depth + 1, false);
                emit(SIGNS + '!');
            } else if (sign == '(') {
                condition(tape, depth + 1, false);
                tape.takeSign(')');
            } else {
                sum(tape, depth + 1);
                tape.takeSign(']');
            }
        }

        private void sum(Tape tape, int depth) {
            atom(tape, depth);
            int waiting = 0;
            for (int i = 0; i < TAPE && !tape.isWrong(); i++) {
                int sign = tape.sign();
                boolean adds = sign == '+' || sign == '-';
                if (!adds && sign != '*' && sign != '/') {
                    break;
                }
                tape.at++;
                // A + or - waits till the * and / behind it are worked.
                if (adds && waiting != 0) {
                    emit(SIGNS + waiting);
                }
                waiting = adds ? sign : waiting;
                atom(tape, depth);
                if (!adds) {
                    emit(SIGNS + sign);
                }
            }
            if (waiting != 0) {
                emit(SIGNS + waiting);
            }
        }

        private void atom(Tape tape, int depth) {
            if (tape.isWrong()) {
                return;
            }
            int sign = tape.sign();
            int letter = letterOf(sign);
            if (sign == '[') {
                nested(tape, depth, sign);
            } else if (letter >= 0) {
                tape.at++;
                emit(-1 - letter);
            } else {
                emit(tape.number(4));
            }
        }

        private static int letterOf(int sign) {
            switch (sign) {
                case 'p': return 0;
                case 'x': return 1;
                case 'l': return 2;
                case 'h': return 3;
                case 'd': return 4;
                case 't': return 5;
                case 'i': return 6;
                default: return -1;
            }
        }

        /** The WORTH, with the values of the letters p x l h d t i. */
        int worth(int[] letters) {
            int top = 0;
            for (int i = 0; i < size; i++) {
                int one = code[i];
                if (one == SIGNS + ';') {
                    return top > 0 ? stack[top - 1] : 0;
                }
                if (one < SIGNS) {
                    if (top >= STACK) {
                        return 0;
                    }
                    stack[top] = valueOf(one, letters);
                    top++;
                } else if (one == SIGNS + '?') {
                    top = 0;
                    if (stack[0] == 0 && i + 1 < size) {
                        // Jumps lead forward alone, to a CLAUSE behind this one.
                        i = Math.max(i, code[i + 1] - 1);
                    } else {
                        i++;
                    }
                } else if (one == SIGNS + '!') {
                    if (top > 0) {
                        stack[top - 1] = 1 - stack[top - 1];
                    }
                } else if (top > 1) {
                    top--;
                    stack[top - 1] = worked(one - SIGNS, stack[top - 1], stack[top]);
                }
            }
            return 0;
        }

        private static int valueOf(int one, int[] letters) {
            if (one >= 0) {
                return one;
            }
            int letter = -1 - one;
            return letter < letters.length ? letters[letter] : 0;
        }

        private static int worked(int sign, int a, int b) {
            switch (sign) {
                case '+': return bounded((long) a + b);
                case '-': return bounded((long) a - b);
                case '*': return bounded((long) a * b);
                case '/': return b == 0 ? 0 : a / b;
                case '=': return a == b ? 1 : 0;
                case '<': return a < b ? 1 : 0;
                case '>': return a > b ? 1 : 0;
                case '&': return a & b;
                default: return a | b;
            }
        }

        private static int bounded(long v) {
            return (int) Math.max(-BOUND, Math.min(BOUND, v));
        }
    }

    /** PAILS: the search for the fewest, in the order in which ties are broken. */
    private static final class Pails {
        private static final int MOST = 4;
        private static final int ANY_WAY = 7;

        final int[] given = new int[ROOMS];
        private final int[] useful = new int[ROOMS];
        private int rooms;
        private final int[] high = new int[ROOMS];
        /** The ways (bits of Works) in which each ROPE may go to REST, so that all WANTED can be so. */
        private final int[] ways = new int[ROPES];

        /** Behind weigh: how many, and in given how many into each room; NONE if not with 4. */
        int fewest(Plan plan, State state, Works works, int[] wanted) {
            for (int r = 0; r < ROOMS; r++) {
                given[r] = 0;
            }
            int matter = mattering(plan, wanted);
            for (int p = 0; p < ROPES; p++) {
                ways[p] = (matter >> p & 1) == 0 ? ANY_WAY : 0;
            }
            if (!findWays(plan, state, wanted, matter, 0)) {
                return NONE;
            }
            findUseful(plan, matter);
            for (int n = 0; n <= MOST; n++) {
                if (search(plan, state, works, wanted, 0, n)) {
                    return n;
                }
            }
            return NONE;
        }

        /** ROPES (bits) on which a WANTED height hangs: the fewest PAILS leave all others alone. */
        private static int mattering(Plan plan, int[] wanted) {
            int bits = 0;
            for (int p = plan.ropes - 1; p >= 0; p--) {
                if (wanted[2 * p] != NONE || wanted[2 * p + 1] != NONE) {
                    bits |= 1 << p;
                }
                if ((bits >> p & 1) != 0 && plan.hangs[p] >= 0) {
                    bits |= 1 << (plan.hangs[p] >> 1);
                }
            }
            return bits;
        }

        private void findUseful(Plan plan, int matter) {
            rooms = 0;
            for (int r = 0; r < 2 * plan.ropes; r++) {
                if (moves(plan, r, matter)) {
                    useful[rooms] = r;
                    rooms++;
                }
            }
        }

        private static boolean moves(Plan plan, int room, int matter) {
            int r = room;
            for (int i = 0; i < ROPES && r >= 0; i++) {
                if ((matter >> (r >> 1) & 1) != 0 && plan.lever(r) != 0) {
                    return true;
                }
                r = plan.carrier(r);
            }
            return false;
        }

        /** Whether the ROPES from p on can end with all WANTED so, those ahead being as high tells. */
        private boolean findWays(Plan plan, State state, int[] wanted, int matter, int p) {
            if (p >= plan.ropes || p >= ROPES) {
                return true;
            }
            if ((matter >> p & 1) == 0) {
                return findWays(plan, state, wanted, matter, p + 1);
            }
            boolean can = false;
            for (int way = Works.HELD; way <= Works.UP; way <<= 1) {
                int x = way == Works.DOWN ? 0 : plan.length[p];
                x = way == Works.HELD ? state.x[p] : x;
                if (isSo(plan, wanted, p, x) && findWays(plan, state, wanted, matter, p + 1)) {
                    ways[p] |= way;
                    can = true;
                }
            }
            return can;
        }

        /** Whether both rooms of a ROPE are as WANTED with an X, those ahead being as high tells. */
        private boolean isSo(Plan plan, int[] wanted, int p, int x) {
            int on = plan.hangs[p];
            int foot = on >= 0 && on < 2 * p ? high[on] : 0;
            for (int r = 2 * p; r <= 2 * p + 1; r++) {
                high[r] = foot + plan.place(r, x);
                if (wanted[r] != NONE && wanted[r] != high[r]) {
                    return false;
                }
            }
            return true;
        }

        /** Greater numbers first, room by room, so that the first found is the one that is due. */
        private boolean search(Plan plan, State state, Works works, int[] wanted, int index, int left) {
            if (isHopeless(plan, state, works, left)) {
                return false;
            }
            if (left == 0) {
                return fits(plan, state, works, wanted);
            }
            if (index < 0 || index >= rooms) {
                return false;
            }
            int room = useful[index];
            int in = Math.min(left, MOST_WATER - state.water[room]);
            int out = Math.min(left, state.water[room]);
            for (int n = in; n >= -out; n--) {
                int more = left - Math.abs(n);
                if (more == 0 || index + 1 < rooms) {
                    give(plan, works, room, n);
                    if (search(plan, state, works, wanted, index + 1, more)) {
                        return true;
                    }
                }
            }
            give(plan, works, room, 0);
            return false;
        }

        /** Some ROPE can't be brought to go as it must by the PAILS that are left. */
        private boolean isHopeless(Plan plan, State state, Works works, int left) {
            for (int p = 0; p < plan.ropes; p++) {
                if (ways[p] != ANY_WAY && (ways[p] & works.waysWithin(plan, state, p, left)) == 0) {
                    return true;
                }
            }
            return false;
        }

        private void give(Plan plan, Works works, int room, int n) {
            int more = n - given[room];
            given[room] = n;
            int r = room;
            for (int i = 0; i < ROPES && r >= 0 && more != 0; i++) {
                works.lean[r >> 1] += more * plan.lever(r);
                r = plan.carrier(r);
            }
        }

        private boolean fits(Plan plan, State state, Works works, int[] wanted) {
            for (int p = 0; p < plan.ropes; p++) {
                if (!isSo(plan, wanted, p, works.restingX(plan, state, p))) {
                    return false;
                }
            }
            return true;
        }
    }

    /** TOGETHER and FEAST: which heights some X of all ROPES give, told ROPE by ROPE from those that hang lowest. */
    private static final class Fit {
        private static final int HIGHEST = 120;
        private static final int OUT = 8192;
        private static final int NEVER = 1000000;

        private final int[][] table = new int[ROPES][HIGHEST + 1];
        private final int[] mostFoot = new int[ROPES];
        private int asked;

        /**
         * The rooms to leave out (bits). A room left out costs OUT less a share that is the greater the lower it is:
         * the least cost has the fewest rooms, and of several such the lower ones, and tells which they are.
         */
        int leaveOut(Plan plan, int[] wanted) {
            findFeet(plan);
            int total = 0;
            for (int p = plan.ropes - 1; p >= 0; p--) {
                for (int foot = 0; foot <= mostFoot[p]; foot++) {
                    table[p][foot] = leastCost(plan, wanted, p, foot);
                }
                if (plan.hangs[p] == NONE) {
                    total += table[p][0];
                }
            }
            int shares = (total + OUT - 1) / OUT * OUT - total;
            int bits = 0;
            for (int r = 0; r < ROOMS; r++) {
                if ((shares >> (ROOMS - 1 - r) & 1) != 0) {
                    bits |= 1 << r;
                }
            }
            return bits;
        }

        /** How high the foot of each ROPE can be: 0, or as high as the room on which it hangs. */
        private void findFeet(Plan plan) {
            for (int p = 0; p < plan.ropes; p++) {
                int on = plan.hangs[p] >> 1;
                mostFoot[p] = on >= 0 && on < p ? Math.min(HIGHEST, mostFoot[on] + plan.length[on]) : 0;
            }
        }

        private int leastCost(Plan plan, int[] wanted, int p, int foot) {
            int least = NEVER;
            for (int x = 0; x <= plan.length[p]; x += plan.stride(p)) {
                int first = foot + x;
                int second = foot + plan.place(2 * p + 1, x);
                int cost = costOf(wanted, 2 * p, first) + costOf(wanted, 2 * p + 1, second);
                for (int q = p + 1; q < plan.ropes && cost < least; q++) {
                    if (plan.hangs[q] == 2 * p && first <= HIGHEST) {
                        cost += table[q][first];
                    } else if (plan.hangs[q] == 2 * p + 1 && second <= HIGHEST) {
                        cost += table[q][second];
                    }
                }
                least = Math.min(least, cost);
            }
            return least;
        }

        private static int costOf(int[] wanted, int room, int height) {
            if (wanted[room] == NONE || wanted[room] == height) {
                return 0;
            }
            return OUT - (1 << (ROOMS - 1 - room));
        }

        /** FEAST: table tells, for a ROPE and a height above its foot, whether all asked of it and below can be there. */
        int lowest(Plan plan, int some) {
            asked = some;
            for (int p = plan.ropes - 1; p >= 0; p--) {
                int on = plan.hangs[p];
                // A room that carries one that is asked is known by its bit of the upper half.
                if (on >= 0 && isAsked(p)) {
                    asked |= 1 << ROOMS + on;
                }
                for (int h = 0; h <= HIGHEST; h++) {
                    table[p][h] = isAsked(p) && !canAllBe(plan, p, h) ? 0 : 1;
                }
            }
            for (int h = 0; h <= HIGHEST; h++) {
                if (topsCanBe(plan, h)) {
                    return h;
                }
            }
            return NONE;
        }

        /** Whether a ROPE, or one that hangs below it, has a room that is asked. */
        private boolean isAsked(int p) {
            return ((asked >> 2 * p | asked >> ROOMS + 2 * p) & 3) != 0;
        }

        private boolean topsCanBe(Plan plan, int h) {
            for (int p = 0; p < plan.ropes; p++) {
                if (plan.hangs[p] == NONE && table[p][h] == 0) {
                    return false;
                }
            }
            return true;
        }

        private boolean canAllBe(Plan plan, int p, int h) {
            for (int x = 0; x <= plan.length[p]; x += plan.stride(p)) {
                int above = h - plan.place(2 * p + 1, x);
                if (canBe(plan, 2 * p, h - x) && canBe(plan, 2 * p + 1, above)) {
                    return true;
                }
            }
            return false;
        }

        /** A room itself, and what hangs on it, with so much left up to the height. */
        private boolean canBe(Plan plan, int room, int left) {
            if ((asked >> room & 1) != 0 && left != 0) {
                return false;
            }
            if ((asked >> ROOMS + room & 1) == 0) {
                return true;
            }
            for (int q = (room >> 1) + 1; q < plan.ropes; q++) {
                if (plan.hangs[q] == room && isAsked(q) && (left < 0 || left > HIGHEST || table[q][left] == 0)) {
                    return false;
                }
            }
            return true;
        }
    }

    /** ORDERS of TASKS, tried one by one from the first, each TASK on a state of its own. */
    private static final class Orders {
        private final State[] rows = new State[TASKS + 1];
        int found;
        int first;

        Orders() {
            for (int i = 0; i <= TASKS; i++) {
                rows[i] = new State();
            }
        }

        void find(Plan plan, State from, Folk folk, Works works) {
            found = 0;
            first = NONE;
            rows[0].take(from);
            goThrough(plan, folk, works, 0, 0, 0);
        }

        private void goThrough(Plan plan, Folk folk, Works works, int done, int used, int digits) {
            if (done >= folk.tasks || done >= TASKS) {
                found++;
                first = first == NONE ? digits : first;
                return;
            }
            State row = rows[done];
            State next = rows[done + 1];
            works.weigh(plan, row, folk);
            works.settle(plan, row);
            for (int t = 0; t < folk.tasks; t++) {
                int who = folk.taskPerson[t];
                int to = folk.taskPlace[t];
                boolean open = (used >> t & 1) == 0 && who >= 0 && who < PERSONS;
                if (open && works.meeting(plan, row, folk, row.at[who], to)) {
                    next.take(row);
                    next.at[who] = to;
                    goThrough(plan, folk, works, done + 1, used | 1 << t, digits * 10 + t);
                }
            }
        }
    }
}
