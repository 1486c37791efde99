import java.util.NoSuchElementException;
import java.util.Random;

/** Runs of calls by chance (of told seeds), each asked of the class and of the slow Model: both answer alike. */
public final class ModelTest {
    private static final String[] NAMES = {
        "minutes", "rest", "rope", "room", "brake", "water", "turn", "gallery", "beside", "meet", "person", "step",
        "where", "way", "unseen", "want", "pails", "together", "task", "orders", "woke", "slipped", "rent", "even",
        "keep", "tried", "best", "feast", "group", "often", "cut", "load", "strain", "above", "sway", "image", "back",
        "count", "fault", "end", "text", "feed"
    };

    private final Random luck;
    private final Check check;
    private final int run;
    private RopeRooms real = new RopeRooms();
    private Model model = new Model();
    private int ropes;

    private ModelTest(int run, Check check) {
        this.run = run;
        this.check = check;
        luck = new Random(run);
    }

    public static void main(String[] args) {
        int runs = args.length > 0 ? Integer.parseInt(args[0]) : 400;
        int from = args.length > 1 ? Integer.parseInt(args[1]) : 0;
        Check check = new Check("ModelTest");
        for (int run = from; run < from + runs; run++) {
            new ModelTest(run, check).go();
        }
        check.finish();
    }

    private int below(int n) {
        return luck.nextInt(n);
    }

    private void go() {
        int calls = 0;
        if (below(4) != 0) {
            tellTown();
        }
        while (calls < 250) {
            calls++;
            int dice = below(60);
            if (dice == 0 && below(4) == 0) {
                tellTown();
            } else if (dice == 1) {
                tellRule();
            } else if (dice == 2) {
                tellText(spoilt(below(2) == 0 ? townText() : ruleText()));
            } else {
                call(NAMES[below(NAMES.length)]);
            }
        }
    }

    private void due(String call, long got, long want) {
        if (want != Model.TOO_DEAR) {
            check.due("run " + run + ": " + call, got, want);
        }
    }

    // ---- texts by chance

    private String blanks() {
        return below(12) == 0 ? " " : "";
    }

    private String townText() {
        StringBuilder s = new StringBuilder();
        int n = 1 + below(below(3) == 0 ? 6 : 3);
        boolean small = below(3) != 0;
        for (int p = 0; p < n; p++) {
            if (p > 0) {
                s.append(blanks()).append(';').append(blanks());
            }
            s.append(ropeText(p, small));
        }
        return s.toString();
    }

    private String ropeText(int p, boolean small) {
        StringBuilder s = new StringBuilder();
        int kind = below(5) < 3 ? 0 : 1 + below(2);
        int length = small ? 2 + below(6) : 2 + below(19);
        int x = below(length + 1);
        if (kind == 1) {
            length += length & 1;
            x &= ~1;
        }
        s.append("l").append(length).append(blanks()).append(",").append("x").append(blanks()).append(x);
        if (kind != 0) {
            s.append(",k").append(kind);
        }
        add(s, "a", 1 + below(below(2) == 0 ? 12 : 99));
        add(s, "b", 1 + below(below(2) == 0 ? 12 : 99));
        add(s, "h", below(below(3) == 0 ? 100 : 8));
        if (below(2) == 0) {
            add(s, "s", below(101));
        }
        if (below(2) == 0) {
            add(s, "r", below(10));
        }
        if (p > 0 && below(2) == 0) {
            s.append(",u").append(below(2 * p));
        }
        return s.toString();
    }

    private void add(StringBuilder s, String letter, int v) {
        if (below(3) != 0) {
            s.append(",").append(letter).append(v);
        }
    }

    private String ruleText() {
        StringBuilder s = new StringBuilder();
        int n = 1 + below(3);
        for (int i = 0; i < n; i++) {
            if (i > 0) {
                s.append(blanks()).append(";");
            }
            s.append("y").append(blanks()).append(":");
            if (below(3) != 0) {
                s.append(condition(below(3))).append(blanks()).append("?");
            }
            s.append(sum(below(3)));
        }
        return s.toString();
    }

    private String condition(int deep) {
        StringBuilder s = new StringBuilder(unit(deep));
        for (int i = below(3); i > 0; i--) {
            s.append(blanks()).append(below(2) == 0 ? "&" : "|").append(unit(deep));
        }
        return s.toString();
    }

    private String unit(int deep) {
        if (deep > 0 && below(3) == 0) {
            return "!" + unit(deep - 1);
        }
        if (deep > 0 && below(3) == 0) {
            return "(" + condition(deep - 1) + ")";
        }
        return sum(deep) + "=<>".charAt(below(3)) + sum(deep);
    }

    private String sum(int deep) {
        StringBuilder s = new StringBuilder(atom(deep));
        for (int i = below(3); i > 0; i--) {
            s.append("+-*/".charAt(below(4))).append(blanks()).append(atom(deep));
        }
        return s.toString();
    }

    private String atom(int deep) {
        if (deep > 0 && below(3) == 0) {
            return "[" + sum(deep - 1) + blanks() + "]";
        }
        if (below(3) == 0) {
            return "" + below(below(3) == 0 ? 10000 : 12);
        }
        return "" + "pxlhdti".charAt(below(7));
    }

    private String spoilt(String text) {
        StringBuilder s = new StringBuilder(text);
        String signs = "klxabhsruypdti0123456789,;:?!()[]&|=<>+-*/ zK\u00e9";
        for (int i = 1 + below(3); i > 0; i--) {
            int at = below(s.length() + 1);
            char c = signs.charAt(below(signs.length()));
            int how = below(4);
            if (how == 0 || at == s.length()) {
                s.insert(at, c);
            } else if (how == 1) {
                s.setCharAt(at, c);
            } else if (how == 2 && s.length() > 1) {
                s.deleteCharAt(at);
            } else {
                s.setLength(at);
            }
        }
        return s.toString();
    }

    private boolean tellText(String text) {
        due("end(0)", real.end(0) ? 1 : 0, model.end(0) ? 1 : 0);
        for (int from = 0; from < text.length(); from += 20) {
            int[] w = Check.words(text, from);
            due("feed of " + text, real.feed(w[0], w[1], w[2], w[3], w[4]), model.feed(w[0], w[1], w[2], w[3], w[4]));
        }
        due("fault(0) of " + text, real.fault(0), model.fault(0));
        due("fault(1) of " + text, real.fault(1), model.fault(1));
        return true;
    }

    private void tellTown() {
        tellText(townText());
        long seed = luck.nextLong();
        due("text(0, " + seed + ")", real.text(0, seed), model.text(0, seed));
        ropes = model.count(0);
        for (int i = below(5); i > 0; i--) {
            call("gallery");
        }
        for (int i = below(12); i > 0; i--) {
            int one = aPlace();
            int other = aPlace();
            due("beside", real.beside(one, other, true) ? 1 : 0, model.beside(one, other, true) ? 1 : 0);
        }
        for (int i = below(5); i > 0; i--) {
            call("person");
        }
        for (int i = below(4); i > 0; i--) {
            call("task");
        }
        if (below(3) == 0) {
            call("want");
        }
    }

    private void tellRule() {
        tellText(ruleText());
        due("text(1, 5)", real.text(1, 5), model.text(1, 5));
    }

    // ---- calls by chance

    /** Mostly from 0 up to below n, now and then a little or far outside. */
    private int about(int n) {
        int dice = below(40);
        if (dice == 0) {
            return luck.nextInt();
        }
        if (dice == 1) {
            return n + below(3);
        }
        if (dice == 2) {
            return -1 - below(2);
        }
        if (dice == 3) {
            return below(2) == 0 ? Integer.MAX_VALUE : Integer.MIN_VALUE;
        }
        return n <= 0 ? 0 : below(n);
    }

    private int aRoom() {
        return about(2 * ropes);
    }

    private int aPlace() {
        return below(3) == 0 ? 12 + below(6) : aRoom();
    }

    private int span() {
        return below(3) == 0 ? about(62) : 1 + below(12);
    }

    private int bit(boolean is) {
        return is ? 1 : 0;
    }

    private void call(String name) {
        if (!callPlain(name) && !callPlaces(name) && !callSearches(name) && !callMore(name)) {
            throw new IllegalStateException(name);
        }
    }

    private boolean callPlain(String name) {
        int a = about(6);
        int b = about(5);
        int n = span();
        String text = name + "(" + a + ", " + b + ", " + n + ")";
        switch (name) {
            case "minutes": due(name + n, real.minutes(n), model.minutes(n)); return true;
            case "rest": due(name, real.rest(), model.rest()); return true;
            case "rope": dueRope(about(ropes), about(10)); return true;
            case "room": { int r = aRoom(); due(name + r + " " + b, real.room(r, b), model.room(r, b)); return true; }
            case "brake": {
                boolean on = below(2) == 0;
                int p = about(ropes);
                due(text, bit(real.brake(p, on)), bit(model.brake(p, on)));
                return true;
            }
            case "water": {
                int r = aRoom();
                int v = below(3) == 0 ? about(101) : below(8);
                due(text, bit(real.water(r, v)), bit(model.water(r, v)));
                return true;
            }
            case "turn": {
                int p = about(ropes);
                int by = below(2) == 0 ? below(46) - 22 : about(5);
                due(name + p + " " + by, real.turn(p, by), model.turn(p, by));
                return true;
            }
            case "image": due(name, real.image(), model.image()); return true;
            case "back": due(name, real.back(), model.back()); return true;
            case "count": { int what = about(7); due(name + what, real.count(what), model.count(what)); return true; }
            default: return false;
        }
    }

    private void dueRope(int rope, int what) {
        int got = 77777;
        int want = 77777;
        try {
            got = real.rope(rope, what);
        } catch (NoSuchElementException e) {
            got = 77777;
        }
        try {
            want = model.rope(rope, what);
        } catch (NoSuchElementException e) {
            want = 77777;
        }
        due("rope(" + rope + ", " + what + ")", got, want);
    }

    private boolean callPlaces(String name) {
        int one = aPlace();
        int other = aPlace();
        int who = about(model.count(5));
        int n = span();
        String text = name + "(" + one + ", " + other + ") " + who + " " + n;
        switch (name) {
            case "gallery": { int h = below(4) == 0 ? about(62) : below(8); due(text, real.gallery(h), model.gallery(h)); return true; }
            case "beside": {
                boolean is = below(5) != 0;
                due(text, bit(real.beside(one, other, is)), bit(model.beside(one, other, is)));
                return true;
            }
            case "meet": due(text, real.meet(one, other), model.meet(one, other)); return true;
            case "person": { int w = about(11); due(text, real.person(w, one), model.person(w, one)); return true; }
            case "step": due(text, bit(real.step(who, one)), bit(model.step(who, one))); return true;
            case "where": due(text, real.where(who), model.where(who)); return true;
            case "way": due(text, real.way(one, other), model.way(one, other)); return true;
            case "unseen": { int r = aRoom(); int q = aRoom(); due(text, real.unseen(r, q, n), model.unseen(r, q, n)); return true; }
            case "task": due(text, real.task(who, one), model.task(who, one)); return true;
            case "group": { int p = below(3) == 0 ? -1 : one; due(text, real.group(p), model.group(p)); return true; }
            case "often": {
                int what = about(3);
                due(text, real.often(one, other, n, what), model.often(one, other, n, what));
                return true;
            }
            default: return false;
        }
    }

    private boolean callSearches(String name) {
        int r = aRoom();
        int what = about(2);
        int n = span();
        int rule = about(model.count(1));
        String text = name + "(" + r + ", " + what + ", " + n + ", " + rule + ")";
        switch (name) {
            case "want": { int h = below(4) == 0 ? -1 : below(3) == 0 ? about(210) : below(10); due(text + h, bit(real.want(r, h)), bit(model.want(r, h))); return true; }
            case "woke": { int h = below(3) == 0 ? -1 : below(3) == 0 ? about(210) : below(10); due(text + h, bit(real.woke(r, h)), bit(model.woke(r, h))); return true; }
            case "pails": duePails(below(2) == 0 ? -1 : r); return true;
            case "together": due(text, real.together(what), model.together(what)); return true;
            case "orders": dueOrders(what); return true;
            case "slipped": due(text, real.slipped(n), model.slipped(n)); return true;
            case "keep": due(text, real.keep(rule, n), model.keep(rule, n)); return true;
            case "tried": due(text, real.tried(rule, n, what), model.tried(rule, n, what)); return true;
            case "best": due(text, real.best(n), model.best(n)); return true;
            case "feast": { int some = about(1 << 2 * ropes); due(text + some, real.feast(some), model.feast(some)); return true; }
            default: return false;
        }
    }

    /** The model tries all: of large towns only now and then. */
    private void duePails(int room) {
        if (ropes <= 2 || ropes == 3 && below(4) == 0 || below(60) == 0) {
            due("pails(" + room + ")", real.pails(room), model.pails(room));
        }
    }

    private void dueOrders(int what) {
        if (model.count(6) <= 4 || below(30) == 0) {
            due("orders(" + what + ")", real.orders(what), model.orders(what));
        }
    }

    private boolean callMore(String name) {
        int r = aRoom();
        int p = about(ropes);
        int what = about(2);
        int n = span();
        String text = name + "(" + r + ", " + p + ", " + what + ", " + n + ")";
        switch (name) {
            case "rent": { int room = below(3) == 0 ? -1 : r; int price = about(101); due(text, real.rent(room, price), model.rent(room, price)); return true; }
            case "even": due(text, real.even(what), model.even(what)); return true;
            case "cut": due(text, real.cut(p, what), model.cut(p, what)); return true;
            case "load": due(text, real.load(r), model.load(r)); return true;
            case "strain": { int rope = below(3) == 0 ? -1 : p; due(text, real.strain(rope), model.strain(rope)); return true; }
            case "above": due(text, real.above(r), model.above(r)); return true;
            case "sway": { int k = below(4) == 0 ? about(22) : 1 + below(20); due(text + k, real.sway(p, n, k), model.sway(p, n, k)); return true; }
            case "fault": { int sort = about(3); due(text + sort, real.fault(sort), model.fault(sort)); return true; }
            case "end": { int e = below(3) == 0 ? about(model.count(2) + 1) : model.count(2); due(text + e, bit(real.end(e)), bit(model.end(e))); return true; }
            case "text": { int sort = about(3); if (sort != 0) due(text + sort, real.text(sort, n), model.text(sort, n)); return true; }
            case "feed": { int w = luck.nextInt() & luck.nextInt(); due(text + w, real.feed(w, what, 0, w, r), model.feed(w, what, 0, w, r)); return true; }
            default: return false;
        }
    }
}
