import java.util.Random;
import java.util.TreeMap;

/**
 * Towns by chance (of told seeds), set up so that much happens in them: what is searched for is mostly there to be
 * found. The class and the slow Model answer alike, and each answer of note comes often enough.
 */
public final class SceneTest {
    private final Random luck;
    private final Check check;
    private final int run;
    private final TreeMap<String, Integer> notable;
    private RopeRooms real;
    private Model model;
    private int rooms;

    private SceneTest(int run, Check check, TreeMap<String, Integer> notable) {
        this.run = run;
        this.check = check;
        this.notable = notable;
        luck = new Random(run * 7919L + 5);
    }

    public static void main(String[] args) {
        int runs = args.length > 0 ? Integer.parseInt(args[0]) : 300;
        int from = args.length > 1 ? Integer.parseInt(args[1]) : 0;
        Check check = new Check("SceneTest");
        TreeMap<String, Integer> notable = new TreeMap<>();
        for (int run = from; run < from + runs; run++) {
            SceneTest scene = new SceneTest(run, check, notable);
            scene.pailsScene();
            scene.ordersScene();
            scene.waysScene();
            scene.slipsScene();
            scene.rulesScene();
            scene.shapesScene();
        }
        System.out.println("answers of note: " + notable);
        for (String name : "pails orders way unseen often sway slipped best tried together feast load".split(" ")) {
            check.due("often enough an answer of note: " + name, notable.getOrDefault(name, 0) >= runs / 20, true);
        }
        check.finish();
    }

    private int below(int n) {
        return luck.nextInt(n);
    }

    private void due(String name, String call, int got, int want) {
        if (want == Model.TOO_DEAR) {
            return;
        }
        check.due("run " + run + ": " + name + call, got, want);
        if (want > 0) {
            notable.merge(name, 1, Integer::sum);
        }
    }

    private void tell(String town, long seed) {
        real = new RopeRooms();
        model = new Model();
        for (int from = 0; from < town.length(); from += 20) {
            int[] w = Check.words(town, from);
            due("feed", town, real.feed(w[0], w[1], w[2], w[3], w[4]), model.feed(w[0], w[1], w[2], w[3], w[4]));
        }
        due("text", town, real.text(0, seed), model.text(0, seed));
        rooms = 2 * model.ropes();
    }

    /** ROPES near their balance, so that a pail, a person or a slip moves them. */
    private String town(int most, int longest, boolean slips) {
        StringBuilder s = new StringBuilder();
        int n = 1 + below(most);
        for (int p = 0; p < n; p++) {
            int kind = below(6) == 0 ? 2 : below(4) == 0 ? 1 : 0;
            int length = 2 + below(longest - 1);
            length = kind == 1 ? length & ~1 : length;
            int x = below(length + 1);
            x = kind == 1 ? x & ~1 : x;
            int a = 3 + below(5);
            int b = (kind == 1 ? 2 * a : a) + below(5) - 2;
            s.append(p == 0 ? "" : ";").append("l").append(length).append(",x").append(x).append(",k").append(kind);
            s.append(",a").append(a).append(",b").append(Math.max(1, b)).append(",h").append(below(5));
            if (below(4) == 0) {
                s.append(",r").append(1 + below(2));
            }
            if (slips) {
                s.append(",s").append(below(60));
            }
            if (p > 0 && below(3) == 0) {
                s.append(",u").append(below(2 * p));
            }
        }
        return s.toString();
    }

    private void someWaterAndBrakes() {
        for (int r = 0; r < rooms; r++) {
            int v = below(3) == 0 ? (below(6) == 0 ? 95 + below(5) : below(4)) : 0;
            real.water(r, v);
            model.water(r, v);
        }
        for (int p = 0; p < rooms / 2; p++) {
            boolean on = below(4) != 0;
            real.brake(p, on);
            model.brake(p, on);
        }
    }

    private void pailsScene() {
        tell(town(below(10) == 0 ? 5 : 3, 6, false), 0);
        someWaterAndBrakes();
        Model.Town goal = model.town.copy();
        for (int i = 1 + below(4); i > 0; i--) {
            int r = below(rooms);
            int v = goal.water[r] + (below(3) == 0 ? -1 : 1);
            goal.water[r] = Math.max(0, Math.min(99, v));
        }
        model.settle(goal);
        for (int i = 1 + below(3); i > 0; i--) {
            int r = below(rooms);
            int h = model.height(goal, r);
            due("want", r + " " + h, real.want(r, h) ? 1 : 0, model.want(r, h) ? 1 : 0);
        }
        due("pails", "(NONE)", real.pails(-1), model.pails(-1));
        for (int r = 0; r < rooms; r++) {
            int got = model.bestPails == null ? Model.HIDDEN : model.bestPails[r];
            due("pails", "(" + r + ")", real.pails(r), got);
        }
    }

    private void someFolk(int galleries, int persons) {
        for (int i = 0; i < galleries; i++) {
            int h = below(7);
            due("gallery", "", real.gallery(h), model.gallery(h));
        }
        for (int one = 0; one < 18; one++) {
            for (int other = 0; other < 18; other++) {
                if (below(3) == 0) {
                    boolean got = real.beside(one, other, true);
                    due("beside", one + " " + other, got ? 1 : 0, model.beside(one, other, true) ? 1 : 0);
                }
            }
        }
        for (int i = 0; i < persons; i++) {
            int w = 1 + below(4);
            int at = below(3) == 0 ? 12 + below(galleries) : below(rooms);
            due("person", "", real.person(w, at), model.person(w, at));
        }
    }

    private void ordersScene() {
        tell(town(2, 4, false), 0);
        someWaterAndBrakes();
        someFolk(3, 4);
        int tasks = 1 + below(below(20) == 0 ? 6 : 3);
        Model.Town goal = model.town.copy();
        for (int i = 0; i < tasks; i++) {
            model.settle(goal);
            int who = below(4);
            int to = -1;
            for (int tries = 0; tries < 40; tries++) {
                int place = below(18);
                if (model.isPlace(place) && model.meets(goal, goal.at.get(who), place)) {
                    to = place;
                }
            }
            if (to >= 0) {
                goal.at.set(who, to);
                due("task", who + " " + to, real.task(who, to), model.task(who, to));
            }
        }
        due("orders", "(0)", real.orders(0), model.orders(0));
        due("orders", "(1)", real.orders(1), model.orders(1));
    }

    private void waysScene() {
        tell(town(3, 8, false), 0);
        someWaterAndBrakes();
        someFolk(4, 1);
        for (int one = 0; one < 18; one++) {
            for (int other = 0; other < 18; other++) {
                String pair = "(" + one + ", " + other + ")";
                int n = below(13);
                due("way", pair, real.way(one, other), model.way(one, other));
                due("unseen", pair, real.unseen(one, other, n), model.unseen(one, other, n));
                due("often", pair, real.often(one, other, n, 0), model.often(one, other, n, 0));
                due("often", pair, real.often(one, other, 60, 1), model.often(one, other, 60, 1));
                due("often", pair, real.often(one, other, 20, 2), model.often(one, other, 20, 2));
                due("meet", pair, real.meet(one, other), model.meet(one, other));
            }
            due("group", "(" + one + ")", real.group(one), model.group(one));
        }
        due("group", "(NONE)", real.group(-1), model.group(-1));
    }

    private void slipsScene() {
        tell(town(4, 8, true), luck.nextLong());
        int n = 1 + below(6);
        for (int p = 0; p < rooms / 2; p++) {
            due("sway", "(" + p + ")", real.sway(p, n, 20), model.sway(p, n, 20));
        }
        Model.Town slipped = model.town.copy();
        slipped.ropes.get(below(rooms / 2)).on = false;
        for (int i = 0; i < n; i++) {
            model.minute(slipped, false);
        }
        for (int i = below(4); i > 0; i--) {
            int r = below(rooms);
            int h = model.height(slipped, r);
            due("woke", r + " " + h, real.woke(r, h) ? 1 : 0, model.woke(r, h) ? 1 : 0);
        }
        due("slipped", "(" + n + ")", real.slipped(n), model.slipped(n));
        due("image", "", real.image(), model.image());
        for (int i = 0; i < 3; i++) {
            int m = 1 + below(8);
            due("minutes", "(" + m + ")", real.minutes(m), model.minutes(m));
            for (int p = 0; p < rooms / 2; p++) {
                for (int what = 0; what <= 9; what++) {
                    due("rope", "(" + p + ", " + what + ")", real.rope(p, what), model.rope(p, what));
                }
            }
            due("count", "(3)", real.count(3), model.count(3));
        }
        due("back", "", real.back(), model.back());
        due("minutes", "(9)", real.minutes(9), model.minutes(9));
        due("rest", "", real.rest(), model.rest());
        for (int r = 0; r < rooms; r++) {
            due("room", "(" + r + ", 0)", real.room(r, 0), model.room(r, 0));
        }
    }

    private void rulesScene() {
        tell(town(3, 8, true), luck.nextLong());
        String[] texts = {
            "y:0-p", "y:p>0?1;y:0", "y:x<l/2?1;y:t>3&!(d=0|p<0)?2;y:0-1", "y:[t+i]*[t+i]-4", "y:h-p*p",
            "y:!x=l&t<5?p*p;y:i=1?1", "y:t/2*2=t?1", "y:9999*9999-9999*999>0?p*p", "y:d<0|d>3&t>1?1;y:0-d",
            "y: x > 2 & ! ( t = 1 ) ? x / [ i - 1 ] + 1"
        };
        for (int i = 0; i < 4; i++) {
            String rule = texts[below(texts.length)];
            for (int from = 0; from < rule.length(); from += 20) {
                int[] w = Check.words(rule, from);
                due("feed", rule, real.feed(w[0], w[1], w[2], w[3], w[4]), model.feed(w[0], w[1], w[2], w[3], w[4]));
            }
            due("text", rule, real.text(1, 0), model.text(1, 0));
        }
        for (int r = 0; r < rooms; r++) {
            if (below(2) == 0) {
                int h = below(5);
                due("want", r + " " + h, real.want(r, h) ? 1 : 0, model.want(r, h) ? 1 : 0);
            }
        }
        int n = 1 + below(12);
        for (int i = 0; i < 4; i++) {
            due("tried", "(" + i + ", 0)", real.tried(i, n, 0), model.tried(i, n, 0));
            due("tried", "(" + i + ", 1)", real.tried(i, n, 1), model.tried(i, n, 1));
        }
        due("best", "(" + n + ")", real.best(n), model.best(n));
        int rule = below(4);
        due("keep", "(" + rule + ")", real.keep(rule, n), model.keep(rule, n));
        for (int p = 0; p < rooms / 2; p++) {
            due("rope", "(" + p + ", 2)", real.rope(p, 2), model.rope(p, 2));
            due("rope", "(" + p + ", 6)", real.rope(p, 6), model.rope(p, 6));
        }
    }

    private void shapesScene() {
        tell(town(4, 5, false), 0);
        someWaterAndBrakes();
        for (int some = 1; some < 1 << rooms && some < 64; some++) {
            int bits = some * (1 + below(4)) & (1 << rooms) - 1;
            due("feast", "(" + bits + ")", real.feast(bits), model.feast(bits));
        }
        for (int i = 0; i < 6; i++) {
            int r = below(rooms);
            int h = below(7);
            due("want", r + " " + h, real.want(r, h) ? 1 : 0, model.want(r, h) ? 1 : 0);
            due("together", "(0)", real.together(0), model.together(0));
            due("together", "(1)", real.together(1), model.together(1));
        }
        for (int r = 0; r < rooms; r++) {
            due("load", "(" + r + ")", real.load(r), model.load(r));
            due("above", "(" + r + ")", real.above(r), model.above(r));
            due("rent", "(" + r + ")", real.rent(r, 7), model.rent(r, 7));
        }
        for (int p = -1; p < rooms / 2; p++) {
            due("strain", "(" + p + ")", real.strain(p), model.strain(p));
            due("cut", "(" + p + ", 0)", real.cut(p, 0), model.cut(p, 0));
            due("cut", "(" + p + ", 1)", real.cut(p, 1), model.cut(p, 1));
        }
        due("even", "(0)", real.even(0), model.even(0));
        due("even", "(1)", real.even(1), model.even(1));
    }
}
