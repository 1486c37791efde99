import java.util.List;

/** Boundary cases of promises 30 to 32: how RULES are worked, KEPT, TRIED, BEST. */
public final class Edge30to32Test {
    private static final int MIN = Edges.MIN;
    private static final int MAX = Edges.MAX;

    private final Edges e;

    private Edge30to32Test(Edges e) {
        this.e = e;
    }

    public static void main(String[] args) {
        Edges e = new Edges("Edge30to32Test");
        tell(e);
        e.run();
    }

    static void tell(Edges e) {
        Edge30to32Test t = new Edge30to32Test(e);
        t.bounds();
        t.dividing();
        t.worth();
        t.conditions();
        t.letters();
        t.keeping();
        t.trying();
        t.best();
    }

    // ---- helpers

    /** Whether the keeper sets the first BRAKE of a TOWN off by a RULE: whether WORTH is above 0. */
    private static boolean off(String town, String rule) {
        RopeRooms r = Check.town(town);
        if (Check.rule(r, rule) != 0) {
            throw new IllegalStateException("no rule: " + rule);
        }
        r.keep(0, 1);
        return r.rope(0, 6) == 0;
    }

    private void holds(String condition, boolean due) {
        e.due(condition, off("l10,x4", "y:" + condition + "?1"), due);
    }

    /** A SUM is worth just so much. */
    private void is(String sum, String value) {
        holds("[" + sum + "]=" + value, true);
        holds(sum + "<" + value, false);
        holds(sum + ">" + value, false);
    }

    // ---- how RULES are worked

    private void bounds() {
        e.edge(30, "Behind each sign numbers are within -1,000,000 .. 1,000,000", () -> {
            String most = "1000*1000";
            String least = "[0-1000*1000]";
            is("999*1001", "1000*1000-1");
            is(most, "1000*1000");
            is(most + "+1", most);
            is(most + "+1-1", "999*1001");
            is(most + "+9999", most);
            is("1001*1000", most);
            is("9999*9999", most);
            is("9999*9999*9999", most);
            is("9999*9999/1000", "1000");
            is("[" + most + "]*[" + most + "]", most);
            is(most + "*" + most, most);
            is(least + "-1", least);
            is(least + "-1+1", "0-999*1001");
            is(least + "-" + most, least);
            is(least + "+" + most, "0");
            is("0-9999*9999", least);
            is("[0-9999]*9999", least);
            is("[0-9999]*[0-9999]", most);
            is(least + "*" + least, most);
            is(least + "*" + most, least);
            is(most + "-" + least, most);
            is(least + "-" + least, "0");
            // What a SUM is worth at the bounds sets BRAKES too.
            e.due("1000000 is above 0", off("l4", "y:9999*9999"), true);
            e.due("-1000000 is not", off("l4", "y:0-9999*9999"), false);
            e.due("the bound less the bound is not", off("l4", "y:9999*9999-1000*1000"), false);
        });
        e.edge(30, "a number (1 to 4 digits)", () -> {
            is("0", "0000");
            is("9", "0009");
            is("9999", "1000*10-1");
            is("9999+1", "1000*10");
        });
    }

    private void dividing() {
        e.edge(30, "/ cuts towards 0, by 0 gives 0", () -> {
            is("7/2", "3");
            is("[0-7]/2", "0-3");
            is("7/[0-2]", "0-3");
            is("[0-7]/[0-2]", "3");
            is("1/2", "0");
            is("[0-1]/2", "0");
            is("0/5", "0");
            is("5/0", "0");
            is("0/0", "0");
            is("[0-5]/0", "0");
            is("5/[1-1]+3", "3");
            is("1000*1000/[0-1]", "0-1000*1000");
            is("[0-1000*1000]/[0-1]", "1000*1000");
            is("[0-1000*1000]/0", "0");
            is("7/2*2", "6");
            is("2*7/2", "7");
            is("9-7/2", "6");
            is("100/7/2", "7");
        });
        e.edge(30, "SUM: TERMS with + or - between", () -> {
            is("1-2-3", "0-4");
            is("1-2+3", "2");
            is("2+3*4", "14");
            is("2*3+4", "10");
            is("2*3-4*5+6/2", "0-11");
            is("[2+3]*4", "20");
            holds("1+1*[1+1*[1+1*[1+1*[1+1*[1+1*[1+1]]]]]]=8", true);
            holds("8=1+1*[1+1*[1+1*[1+1*[1+1*[1+1*[1+1]]]]]]", true);
        });
    }

    private void worth() {
        e.edge(30, "WORTH: the SUM of the first CLAUSE whose CONDITION holds (or has none), 0 without", () -> {
            e.due("no CONDITION", off("l4", "y:1"), true);
            e.due("0 is not above 0", off("l4", "y:0"), false);
            e.due("below 0", off("l4", "y:0-1"), false);
            e.due("holds", off("l4", "y:1=1?1"), true);
            e.due("none holds: 0", off("l4", "y:1=2?1"), false);
            e.due("none of several holds", off("l4", "y:1=2?1;y:1>2?1;y:2<1?1"), false);
            e.due("the first of two", off("l4", "y:1;y:0"), true);
            e.due("the first of two, 0", off("l4", "y:0;y:1"), false);
            e.due("the first that holds", off("l4", "y:1=2?0;y:1=1?1;y:0"), true);
            e.due("the last, which has none", off("l4", "y:1=2?0;y:2=1?0;y:1"), true);
            e.due("the first that holds, not the last", off("l4", "y:1=1?0;y:1"), false);
            String many = "y:1<0?1;".repeat(19);
            e.due("the last of twenty CLAUSES, 160 bytes", off("l4", many + "y: 1<2?1"), true);
            e.due("none of twenty", off("l4", many + "y: 1>2?1"), false);
            String sum = "y:0" + "+1".repeat(78);
            e.due("a SUM of 159 bytes", off("l4", sum), true);
            e.due("a SUM of 160 bytes, 76 less 76", off("l4", "y:0" + "+1".repeat(76) + "-  76"), false);
            e.due("a SUM of 160 bytes, 76 less 75", off("l4", "y:0" + "+1".repeat(76) + "-  75"), true);
        });
    }

    private void conditions() {
        e.edge(30, "CONDITION: TRUTHS with | between; TRUTH: UNITS with & between", () -> {
            for (int bits = 0; bits < 16; bits++) {
                boolean a = (bits & 1) != 0;
                boolean b = (bits & 2) != 0;
                boolean c = (bits & 4) != 0;
                boolean d = (bits & 8) != 0;
                String[] u = {a ? "1=1" : "1=2", b ? "2>1" : "1>2", c ? "1<2" : "2<1", d ? "!1=2" : "!1=1"};
                holds(u[0] + "|" + u[1] + "&" + u[2] + "|" + u[3], a || b && c || d);
                holds(u[0] + "&" + u[1] + "|" + u[2] + "&" + u[3], a && b || c && d);
                holds("(" + u[0] + "|" + u[1] + ")&(" + u[2] + "|" + u[3] + ")", (a || b) && (c || d));
                holds("!(" + u[0] + "|" + u[1] + ")&" + u[2] + "|" + u[3], !(a || b) && c || d);
                holds("!" + u[0] + "&!" + u[1] + "&!!" + u[2] + "&!" + u[3], !a && !b && c && !d);
                holds("!!!!!!" + u[0] + "&!!!!!(" + u[1] + ")", a && !b);
            }
        });
        e.edge(30, "one of = < >", () -> {
            holds("4=4", true);
            holds("4=5", false);
            holds("4<5", true);
            holds("4<4", false);
            holds("5<4", false);
            holds("5>4", true);
            holds("4>4", false);
            holds("0-1<0", true);
            holds("0-1=1-2", true);
        });
    }

    private void letters() {
        e.edge(30, "Letters: p PULL, x X, l LENGTH, h HOLD, d HEIGHT of the first room less that of the second, t MINUTES"
            + " since it began, i the ROPE's number", () -> {
            e.due("p above 0", off("a99,b1", "y:p=98?1"), true);
            e.due("p below 0", off("a1,b99", "y:p=0-98?1"), true);
            e.due("p of a geared one", off("k1,a99,b1", "y:p=197?1"), true);
            e.due("p of a screw", off("k2,a99,b1", "y:p=0?1"), true);
            e.due("p of a heavy one", off("l20,x20,r9", "y:p=0-180?1"), true);
            e.due("x 0", off("l20", "y:x=0?1"), true);
            e.due("x LENGTH", off("l20,x20", "y:x=l&l=20?1"), true);
            e.due("l 2", off("l2", "y:l=2?1"), true);
            e.due("h 0", off("h0", "y:h=0?1"), true);
            e.due("h 99", off("h99", "y:h=99?1"), true);
            e.due("d least", off("l20", "y:d=0-20?1"), true);
            e.due("d most", off("l20,x20", "y:d=20?1"), true);
            e.due("d of a geared one", off("k1,l20", "y:d=0-10?1"), true);
            e.due("d of a geared one at its end", off("k1,l20,x20", "y:d=20?1"), true);
            e.due("d of a screw", off("k2,l5,x2", "y:d=0-1?1"), true);
            RopeRooms r = Check.town("l4;l4;l4;l4;l4;l4,x1,u0");
            Check.rule(r, "y:i=0|i=5&d=0-2?1");
            r.keep(0, 1);
            for (int p = 0; p < 6; p++) {
                e.due("BRAKE of " + p, r.rope(p, 6), p == 0 || p == 5 ? 0 : 1);
            }
            RopeRooms t = Check.town("l20,b11");
            Check.rule(t, "y:t=0|t=59?1");
            Check.rule(t, "y:t>59?1");
            Check.rule(t, "y:t<0?1");
            e.due("t from 0 to 59", t.keep(0, 60), 2);
            e.due("never 60", t.keep(1, 60), 0);
            e.due("never below 0", t.keep(2, 60), 0);
            e.due("0 again, as it begins again", t.keep(0, 1), 1);
            e.due("count(3)", t.count(3), 181);
        });
    }

    // ---- promise 30

    private void keeping() {
        e.edge(30, "KEPT by a RULE for n MINUTES (1 .. 60): ahead of each for each ROPE by numbers: its BRAKE is off, if"
            + " WORTH is above 0, else on", () -> {
            RopeRooms r = Check.town("l20,b11;l20,b11,x3");
            Check.rule(r, "y:x<5?1");
            Check.rule(r, "y:1");
            Check.rule(r, "y:0");
            Check.rule(r, "y:0-1");
            e.due("keep(0, 1)", r.keep(0, 1), 2);
            e.due("count(3)", r.count(3), 1);
            e.due("keep(0, 60)", r.keep(0, 60), 4 + 1);
            e.due("X of both", r.rope(0, 2) * 10 + r.rope(1, 2), 55);
            e.due("on behind it", r.rope(0, 6), 1);
            e.due("count(3) then", r.count(3), 61);
            e.due("WORTH 1: off", r.keep(1, 1), 2);
            e.due("off behind it", r.rope(1, 6), 0);
            e.due("WORTH 0: on", r.keep(2, 1), 0);
            e.due("on again", r.rope(1, 6), 1);
            r.brake(0, false);
            e.due("WORTH -1: on", r.keep(3, 1), 0);
            e.due("on once more", r.rope(0, 6), 1);
            e.due("TRAVEL", r.rope(0, 7), 6);
        });
        e.edge(30, "KEPT by a RULE: steps of ROPES", () -> {
            // Draws go on: one for each MINUTE with the BRAKE on, none with it off.
            long seed = Draws.seedOf(0, 99, 0, 99);
            RopeRooms r = Check.town("l20,b11,s1", seed);
            Check.rule(r, "y:t=0?1");
            e.due("off, then two draws: 99 and 0", r.keep(0, 3), 2);
            RopeRooms s = Check.town("l20,b11,s1", seed);
            Check.rule(s, "y:0");
            e.due("three draws", s.keep(0, 3), 1);
            e.due("BRAKES do not hold above HOLD", keep("b99,l20", "y:0", 60), 20);
            e.due("no RULE moves a screw", keep("k2,l20,b99", "y:1", 60), 0);
        });
        e.edge(30, "NONE: no such ones", () -> {
            for (int wrong : new int[] {-1, 2, 4, MIN, MAX}) {
                e.refuses("keep(" + wrong + ", 1)", Edges::some, -1, r -> r.keep(wrong, 1));
            }
            for (int wrong : new int[] {0, -1, 61, MIN, MAX}) {
                e.refuses("keep(0, " + wrong + ")", Edges::some, -1, r -> r.keep(0, wrong));
            }
            e.refuses("no RULES", () -> Check.town("l4,b99"), -1, r -> r.keep(0, 1));
            e.refuses("a fifth", Edges::full, -1, r -> r.keep(4, 1));
        });
        e.refused(30, "NONE: no TOWN", Edges::ruled, -1, List.of(r -> r.keep(0, 1), r -> r.keep(1, 60)));
    }

    private static int keep(String town, String rule, int n) {
        RopeRooms r = Check.town(town);
        Check.rule(r, rule);
        return r.keep(0, n);
    }

    // ---- promise 31

    private void trying() {
        e.edge(31, "TRIED by a RULE, apart from the TOWN (with its draws): TRAVEL of all more; how many WANTED are so in the"
            + " end", () -> {
            for (int n : new int[] {1, 7, 60}) {
                RopeRooms r = Edges.some();
                int more = r.tried(0, n, 0);
                int so = r.tried(0, n, 1);
                e.due("again", r.tried(0, n, 0), more);
                e.due("as it is when KEPT", r.keep(0, n), more);
                int wanted = (r.room(0, 0) == 8 ? 1 : 0) + (r.room(5, 0) == 3 ? 1 : 0);
                e.due("WANTED so", so, wanted);
            }
            RopeRooms none = Check.town("l4,x2");
            Check.rule(none, "y:1");
            e.due("nothing WANTED", none.tried(0, 1, 1), 0);
            RopeRooms all = Check.town("l4,x2;l4,x2;l4,x2;l4,x2;l4,x2;l4,x2");
            Check.rule(all, "y:1");
            for (int room = 0; room < 12; room++) {
                all.want(room, 2);
            }
            e.due("all twelve", all.tried(0, 60, 1), 12);
            all.want(11, 3);
            e.due("all but one", all.tried(0, 60, 1), 11);
            all.want(0, 0);
            e.due("height 0 WANTED, not so", all.tried(0, 60, 1), 10);
            e.due("nothing went", all.tried(0, 60, 0), 0);
        });
        e.edge(31, "apart from the TOWN", () -> {
            for (int n : new int[] {1, 60}) {
                for (int what = 0; what <= 1; what++) {
                    int w = what;
                    int due = Edges.some().tried(1, n, w);
                    e.refuses("tried(1, " + n + ", " + w + ")", Edges::some, due, r -> r.tried(1, n, w));
                }
            }
        });
        e.edge(31, "NONE: no such ones", () -> {
            for (int wrong : new int[] {-1, 2, 4, MIN, MAX}) {
                e.refuses("tried(" + wrong + ", 1, 0)", Edges::some, -1, r -> r.tried(wrong, 1, 0));
            }
            for (int wrong : new int[] {0, -1, 61, MIN, MAX}) {
                e.refuses("tried(0, " + wrong + ", 1)", Edges::some, -1, r -> r.tried(0, wrong, 1));
            }
            for (int wrong : new int[] {-1, 2, MIN, MAX}) {
                e.refuses("tried(0, 1, " + wrong + ")", Edges::some, -1, r -> r.tried(0, 1, wrong));
            }
            e.due("no RULES", Check.town("l4,b99").tried(0, 1, 0), -1);
            e.due("a fifth", Edges.full().tried(4, 1, 0), -1);
        });
        e.refused(31, "NONE: no TOWN", Edges::ruled, -1, List.of(r -> r.tried(0, 1, 0), r -> r.tried(1, 60, 1)));
    }

    // ---- promise 32

    private void best() {
        e.edge(32, "BEST of all RULES: with the most WANTED so in the end, then the least TRAVEL (of several the lowest)",
            () -> {
            RopeRooms one = Check.town("l4");
            Check.rule(one, "y:1");
            e.due("one RULE", one.best(1), 0);
            e.due("one RULE, n 60", one.best(60), 0);
            // By the RULES the first room comes to 6, 3, 3 (three steps, by two ways) and 0.
            RopeRooms r = Check.town("l9,b11");
            Check.rule(r, "y:x<6?1");
            Check.rule(r, "y:t<3?1");
            Check.rule(r, "y:x<3?1");
            Check.rule(r, "y:0");
            e.due("nothing WANTED: the least TRAVEL", r.best(60), 3);
            r.want(0, 3);
            e.due("WANTED at 3: of two alike the lowest", r.best(60), 1);
            r.want(0, 6);
            e.due("the most WANTED so, though it goes more", r.best(60), 0);
            e.due("n 5: not there yet", r.best(5), 3);
            e.due("n 6", r.best(6), 0);
            r.want(0, 9);
            e.due("none of them", r.best(60), 3);
            r.want(0, 3);
            r.want(1, 9);
            e.due("one so by each of three: the least TRAVEL", r.best(60), 3);
            RopeRooms four = Check.town("l9");
            for (int i = 0; i < 4; i++) {
                Check.rule(four, "y:" + i);
            }
            e.due("four alike", four.best(1), 0);
        });
        e.refused(32, "NONE: no RULES", () -> Check.town("l4,b99"), -1, List.of(r -> r.best(1), r -> r.best(60)));
        e.refused(32, "NONE: out of bounds", Edges::some, -1,
            List.of(r -> r.best(0), r -> r.best(-1), r -> r.best(61), r -> r.best(MIN), r -> r.best(MAX)));
        e.refused(32, "NONE: no TOWN", Edges::ruled, -1, List.of(r -> r.best(1), r -> r.best(60)));
    }
}
