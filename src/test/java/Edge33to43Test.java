import java.util.List;

/** Boundary cases of promises 33 to 43: FEAST, GROUPS, OFTEN, CUT, LOAD, STRAIN, ABOVE, SWAY, IMAGES, counts. */
public final class Edge33to43Test {
    private static final int MIN = Edges.MIN;
    private static final int MAX = Edges.MAX;
    private static final int HIDDEN = -1000000;
    private static final String CHAIN = "l20,x20;l20,x20,u0;l20,x20,u2;l20,x20,u4;l20,x20,u6;l20,x20,u8";
    /** PLACES that a TOWN of three ROPES and two GALLERIES does not have, NONE aside. */
    private static final int[] NO_PLACES = {-2, 6, 11, 14, 17, 18, 31, 32, 33, MIN, MAX};
    private static final int[] NO_ROOMS = {-2, 6, 11, 12, 18, MIN, MAX};
    private static final int[] NO_ROPES = {-2, 3, 5, 6, MIN, MAX};

    private final Edges e;

    private Edge33to43Test(Edges e) {
        this.e = e;
    }

    public static void main(String[] args) {
        Edges e = new Edges("Edge33to43Test");
        tell(e);
        e.run();
    }

    static void tell(Edges e) {
        Edge33to43Test t = new Edge33to43Test(e);
        t.feasts();
        t.groups();
        t.often();
        t.cuts();
        t.loads();
        t.strains();
        t.above();
        t.sway();
        t.images();
        t.backAgain();
        t.counts();
    }

    // ---- promise 33

    private void feasts() {
        e.edge(33, "FEAST of some rooms (bits): the least HEIGHT at which all of them can be at once, by some X of all"
            + " ROPES (as for TOGETHER, nothing else WANTED)", () -> {
            feast("l4,x3", 1, 0);
            feast("l4,x3", 2, 0);
            feast("l4,x3", 3, 2);
            feast("l2", 3, 1);
            feast("l20", 3, 10);
            feast("k1,l6", 3, 2);
            feast("k1,l18", 3, 6);
            feast("k2,l6", 3, 3);
            feast("l4;l4;l4;l4;l4;l4", 4095, 2);
            feast("l4;l4;l4;l4;l4;l6", 2048, 0);
            feast("l4;l4;l4;l4;l4;l6", 3 | 2048, 2);
            feast("l4;l4,u0", 1 | 4, 0);
            feast("l4;l4,u0", 2 | 4, 2);
            feast("l4;l4,u0", 4 | 8, 2);
            feast("l20;l20,u0;l2", 4 | 8, 10);
            feast(CHAIN, 1 << 10, 0);
            // The second room of a ROPE on the second room of one, and so on, all with the first: 20 less X each.
            feast("l20;k1,l20,u1", 1 | 2 | 8, 10);
            RopeRooms r = Check.town("l4;l4");
            r.want(0, 3);
            r.want(2, 200);
            e.due("what is WANTED does not count", r.feast(1 | 4), 0);
        });
        e.edge(33, "at which all of them can be at once, by some X of all ROPES", () -> {
            String[] towns = {
                "l2;l3,u1;l3,u2;k1,l4,u3", "l2;l2,u0;l2,u3;k1,l2,u1;l2,u5;l2,u9", "l3;l2,u1;l4,u3;k2,l2,u5;k1,l4,u7;l2,u0",
                "k1,l6;l2;l3,u0;l3,u1;l2,u4;l2,u2"
            };
            for (String town : towns) {
                RopeRooms r = Check.town(town);
                Brute all = new Brute(r);
                for (int some = 1; some < 1 << 2 * r.count(0); some++) {
                    e.due("feast(" + some + ") of " + town, r.feast(some), all.feast(some));
                }
            }
        });
        e.edge(33, "NONE: none", () -> {
            feast("l5", 3, -1);
            feast("k1,l8", 3, -1);
            feast("k1,l2", 3, -1);
            feast("k1,l20", 3, -1);
            feast("l4;l6", 15, -1);
            feast("l4;l4,u0", 15, -1);
        });
        e.refused(33, "NONE: no such rooms (not 0)", Edges::some, -1, List.of(r -> r.feast(0), r -> r.feast(64),
            r -> r.feast(1 | 64), r -> r.feast(1 << 11), r -> r.feast(1 << 12), r -> r.feast(-1), r -> r.feast(MIN),
            r -> r.feast(MAX), r -> r.feast(MIN | 1)));
        e.edge(33, "no such rooms (not 0)", () -> {
            e.due("a thirteenth", Edges.full().feast(4096), -1);
            e.due("no TOWN", Edges.bare().feast(1), -1);
            e.due("no TOWN, none", Edges.bare().feast(0), -1);
            e.due("all of three ROPES", Check.town("l4;l4;l4").feast(63), 2);
            e.due("one more", Check.town("l4;l4;l4").feast(127), -1);
        });
    }

    private void feast(String town, int some, int due) {
        e.due("feast(" + some + ") of " + town, Check.town(town).feast(some), due);
    }

    // ---- promise 34

    private void groups() {
        e.edge(34, "GROUPS: PLACES joined by steps between those that MEET now: how many GROUPS of all PLACES there are; the"
            + " GROUP of one (bits)", () -> {
            RopeRooms r = Check.town("l4,x2");
            e.due("two rooms", r.group(-1), 2);
            e.due("alone", r.group(0), 1);
            e.due("alone too", r.group(1), 2);
            r.beside(0, 1, true);
            e.due("joined", r.group(-1), 1);
            e.due("both", r.group(1), 3);
            e.due("a GALLERY more", r.gallery(2), 12);
            e.due("two GROUPS", r.group(-1), 2);
            e.due("of a GALLERY", r.group(12), 1 << 12);
            r.beside(12, 0, true);
            e.due("by way of another", r.group(1), 3 | 1 << 12);
            RopeRooms all = Check.town("l4,x2;l4,x2;l4,x2;l4,x2;l4,x2;l4,x2");
            for (int g = 0; g < 6; g++) {
                all.gallery(2);
            }
            e.due("all eighteen alone", all.group(-1), 18);
            for (int i = 0; i < 17; i++) {
                all.beside(17 - i, 16 - i, true);
            }
            e.due("all eighteen in a row", all.group(-1), 1);
            e.due("of the first", all.group(0), (1 << 18) - 1);
            e.due("of the last", all.group(17), (1 << 18) - 1);
            RopeRooms high = Check.town("l4,x1");
            high.beside(0, 1, true);
            e.due("BESIDE, not at one HEIGHT", high.group(-1), 2);
        });
        e.edge(34, "NONE: no such PLACE", () -> {
            for (int wrong : NO_PLACES) {
                e.refuses("group(" + wrong + ")", Edges::some, -1, r -> r.group(wrong));
            }
            e.due("behind the last", Edges.full().group(18), -1);
        });
        e.refused(34, "NONE: no TOWN", Edges::ruled, -1, List.of(r -> r.group(-1), r -> r.group(0), r -> r.group(12)));
    }

    // ---- promise 35

    private void often() {
        e.edge(35, "OFTEN: of 0 .. n (n 0 .. 60) numbers of MINUTES (without SLIP) behind how many two PLACES MEET; the"
            + " first, the last such", () -> {
            RopeRooms r = Check.town("l20,b99;k2,l20,x5;l4,x2,b11,s100");
            r.gallery(20);
            r.gallery(2);
            r.gallery(0);
            r.beside(0, 2, true);
            r.beside(0, 12, true);
            r.beside(4, 13, true);
            r.beside(0, 14, true);
            dueOften(r, 0, 2, 60, 1, 5, 5);
            dueOften(r, 2, 0, 5, 1, 5, 5);
            dueOften(r, 0, 2, 4, 0, -1, -1);
            dueOften(r, 0, 12, 60, 41, 20, 60);
            dueOften(r, 0, 12, 20, 1, 20, 20);
            dueOften(r, 0, 12, 19, 0, -1, -1);
            dueOften(r, 4, 13, 60, 61, 0, 60);
            dueOften(r, 13, 4, 0, 1, 0, 0);
            dueOften(r, 0, 14, 60, 1, 0, 0);
            dueOften(r, 0, 14, 0, 1, 0, 0);
            dueOften(r, 0, 13, 60, 0, -1, -1);
            e.due("nothing went", r.rope(0, 2) + r.count(3), 0);
        });
        e.edge(35, "the last (2; NONE: none)", () -> {
            RopeRooms r = Check.town("l4");
            e.due("how many", r.often(0, 1, 60, 0), 0);
            e.due("the first", r.often(0, 1, 60, 1), -1);
            e.due("the last", r.often(0, 1, 60, 2), -1);
        });
        e.edge(35, "HIDDEN: no such ones", () -> {
            for (int wrong : NO_PLACES) {
                e.refuses("often(" + wrong + ", 0)", Edges::some, HIDDEN, r -> r.often(wrong, 0, 5, 0));
                e.refuses("often(0, " + wrong + ")", Edges::some, HIDDEN, r -> r.often(0, wrong, 5, 1));
            }
            e.due("often(-1, 0)", Edges.some().often(-1, 0, 5, 0), HIDDEN);
            e.due("no TOWN", Edges.bare().often(0, 1, 5, 0), HIDDEN);
            for (int wrong : new int[] {-1, 3, MIN, MAX}) {
                e.refuses("what " + wrong, Edges::some, HIDDEN, r -> r.often(0, 12, 5, wrong));
            }
        });
        e.refused(35, "HIDDEN: alike", Edges::some, HIDDEN,
            List.of(r -> r.often(0, 0, 5, 0), r -> r.often(12, 12, 0, 1)));
        e.refused(35, "HIDDEN: out of bounds", Edges::some, HIDDEN, List.of(r -> r.often(0, 12, -1, 0),
            r -> r.often(0, 12, 61, 0), r -> r.often(0, 12, MIN, 1), r -> r.often(0, 12, MAX, 2)));
    }

    private void dueOften(RopeRooms r, int one, int other, int n, int many, int first, int last) {
        String call = "often(" + one + ", " + other + ", " + n + ", ";
        e.due(call + "0)", r.often(one, other, n, 0), many);
        e.due(call + "1)", r.often(one, other, n, 1), first);
        e.due(call + "2)", r.often(one, other, n, 2), last);
    }

    // ---- promise 36

    private void cuts() {
        e.edge(36, "CUT of a ROPE: rooms (bits) that fall: both of it, and all of ROPES that hang on those, and so on; their"
            + " HEIGHTS together", () -> {
            RopeRooms r = Check.town(CHAIN);
            for (int p = 0; p < 6; p++) {
                e.due("cut(" + p + ", 0)", r.cut(p, 0), 4095 & -1 << 2 * p);
                int sum = 0;
                for (int q = p; q < 6; q++) {
                    sum += 20 * (q + 1) + 20 * q;
                }
                e.due("cut(" + p + ", 1)", r.cut(p, 1), sum);
            }
            RopeRooms s = Check.town("l4;l4;l4,u0;l4,u3;l4,u5;l4,u1");
            int[] due = {0xF33, 0x0CC, 0x330, 0x0C0, 0x300, 0xC00};
            for (int p = 0; p < 6; p++) {
                e.due("cut(" + p + ", 0) of two trees", s.cut(p, 0), due[p]);
            }
            e.due("heights of both rooms alone", Check.town("l7,x7").cut(0, 1), 7);
            e.due("nothing fell", r.room(10, 0), 120);
        });
        e.edge(36, "NONE: no such ones", () -> {
            for (int wrong : NO_ROPES) {
                e.refuses("cut(" + wrong + ", 0)", Edges::some, -1, r -> r.cut(wrong, 0));
            }
            for (int wrong : new int[] {-1, 2, MIN, MAX}) {
                e.refuses("cut(0, " + wrong + ")", Edges::some, -1, r -> r.cut(0, wrong));
            }
            e.due("cut(-1, 0)", Edges.some().cut(-1, 0), -1);
            e.due("no TOWN", Edges.bare().cut(0, 0), -1);
            e.due("a seventh", Edges.full().cut(6, 0), -1);
        });
    }

    // ---- promise 37

    private void loads() {
        e.edge(37, "LOAD of a room: the greatest WATER (0 .. 99; all else as it is) with which nothing goes in a MINUTE"
            + " without SLIP", () -> {
            load("x5,h0", 0, 0);
            load("x5,h1", 0, 1);
            load("x5,h98", 0, 98);
            load("x5,h99", 0, 99);
            load("x5,b99,h9", 0, 98);
            load("x5,b99,h10", 0, 99);
            load("x5,b99,h11", 0, 99);
            load("x0", 0, 99);
            load("x10", 0, 5);
            load("x10", 1, 99);
            load("x5,a1,b99,h0", 0, 98);
            load("x5,h7,s100", 1, 7);
            load("k1,x4,b20,h5", 0, 2);
            load("k1,x4,b20,h4", 0, 2);
            load("k1,x4,b20,h6", 0, 3);
            load("k2,x4,h0", 0, 99);
            load("x5;x5;x5;x5;x5;x5,h9", 11, 9);
            load("x5;x5;x5;x5;x5;x5,h9", 0, 5);
            RopeRooms less = Check.town("x5,b99;x5,b99;x5,b99");
            less.load(0);
            Check.tape(less, "x5,h7");
            less.text(0, 0);
            e.due("ROPES of another TOWN do not go", less.load(0), 7);
            RopeRooms r = Check.town("x5,h5");
            r.water(0, 77);
            e.due("its own WATER as it is does not count", r.load(0), 5);
            e.due("and stays", r.room(0, 3), 77);
            e.due("the other room holds against it", r.load(1), 82);
            r.water(0, 99);
            e.due("up to 99", r.load(1), 99);
        });
        e.edge(37, "NONE: something goes whatever it is", () -> {
            load("x5,a99,b1,h5", 0, -1);
            load("x5,a16,h5", 0, -1);
            load("x5,a15,h5", 0, 0);
            load("x5;x5,b99", 0, -1);
            load("x5;x5,b99", 1, -1);
            load("x5;x5,b99", 2, 94);
            load("x5,b99;l4", 2, -1);
            load("x5,b99;l4", 3, -1);
        });
        e.edge(37, "NONE: no such room", () -> {
            for (int wrong : NO_ROOMS) {
                e.refuses("load(" + wrong + ")", Edges::some, -1, r -> r.load(wrong));
            }
            e.due("load(-1)", Check.town("l4").load(-1), -1);
            e.due("load(2)", Check.town("l4").load(2), -1);
            e.due("no TOWN", Edges.bare().load(0), -1);
        });
    }

    private void load(String town, int room, int due) {
        e.due("load(" + room + ") of " + town, Check.town(town).load(room), due);
    }

    // ---- promise 38

    private void strains() {
        e.edge(38, "STRAIN of a ROPE: BEARS of both its rooms together (heavy ropes: and r times LENGTH); the ROPE with the"
            + " most (of several the lowest)", () -> {
            RopeRooms r = Check.town("l20,a1,b1;l20,a1,b1,r9;l2,a99,b83");
            e.due("the least", r.strain(0), 2);
            e.due("a heavy one", r.strain(1), 182);
            e.due("as much", r.strain(2), 182);
            e.due("of several the lowest", r.strain(-1), 1);
            r.water(5, 1);
            e.due("the most", r.strain(-1), 2);
            RopeRooms six = Check.town("l4;l4;l4;l4;l4;l4");
            e.due("six alike", six.strain(-1), 0);
            six.water(11, 1);
            e.due("the sixth", six.strain(-1), 5);
            e.due("its STRAIN", six.strain(5), 21);
            e.due("one ROPE", Check.town("l4").strain(-1), 0);
            e.due("the top of a chain bears all", Check.town(CHAIN).strain(0), 120);
            e.due("the end of a chain", Check.town(CHAIN).strain(5), 20);
        });
        e.edge(38, "NONE: no such one", () -> {
            for (int wrong : NO_ROPES) {
                e.refuses("strain(" + wrong + ")", Edges::some, -1, r -> r.strain(wrong));
            }
            e.due("a seventh", Edges.full().strain(6), -1);
        });
        e.refused(38, "NONE: no TOWN", Edges::ruled, -1, List.of(r -> r.strain(-1), r -> r.strain(0)));
    }

    // ---- promise 39

    private void above() {
        e.edge(39, "ABOVE of a room: rooms that are higher than it (bits)", () -> {
            RopeRooms r = Check.town("l4,x2;l4,x1;l5,x5");
            int[] due = {8 | 16, 8 | 16, 1 | 2 | 8 | 16, 16, 0, 1 | 2 | 4 | 8 | 16};
            for (int room = 0; room < 6; room++) {
                e.due("above(" + room + ")", r.above(room), due[room]);
            }
            RopeRooms all = Check.town("l4,x2;l4,x2;l4,x2;l4,x2;l4,x2;l4,x2");
            e.due("all alike", all.above(0) + all.above(11), 0);
            e.due("all others", Check.town(CHAIN).above(1), 4095 - 2);
            e.due("none", Check.town(CHAIN).above(10), 0);
            RopeRooms g = Check.town("l4");
            g.gallery(60);
            e.due("a GALLERY is no room", g.above(1), 0);
            RopeRooms less = Check.town(CHAIN);
            less.above(0);
            Check.tape(less, "l4,x1");
            less.text(0, 0);
            e.due("nor are rooms of another TOWN", less.above(0), 2);
            e.due("nothing is higher", less.above(1), 0);
        });
        e.edge(39, "NONE: no such room", () -> {
            for (int wrong : NO_ROOMS) {
                e.refuses("above(" + wrong + ")", Edges::some, -1, r -> r.above(wrong));
            }
            e.due("above(-1)", Edges.some().above(-1), -1);
            e.due("no TOWN", Edges.bare().above(0), -1);
        });
    }

    // ---- promise 40

    private void sway() {
        e.edge(40, "SWAY of a ROPE for n MINUTES (1 .. 60), SLIP by draws on the side (seeds 0 .. k less 1, k 1 .. 20): how"
            + " many of these it ends elsewhere than without SLIP", () -> {
            RopeRooms r = Check.town("l20,b11,s7;l20,b11;l20,b11,s100;l20,b99,s50", 99);
            for (int n : new int[] {1, 2, 60}) {
                for (int k : new int[] {1, 2, 19, 20}) {
                    int due = 0;
                    for (int seed = 0; seed < k; seed++) {
                        Draws d = new Draws(seed);
                        boolean slips = false;
                        for (int i = 0; i < 3 * n; i++) {
                            slips |= d.next() < 7 && i % 3 == 0;
                        }
                        due += slips ? 1 : 0;
                    }
                    String call = ", " + n + ", " + k + ")";
                    e.due("sway(0" + call, r.sway(0, n, k), due);
                    e.due("SLIP 0: sway(1" + call, r.sway(1, n, k), 0);
                    e.due("SLIP 100: sway(2" + call, r.sway(2, n, k), k);
                    e.due("goes anyhow: sway(3" + call, r.sway(3, n, k), 0);
                }
            }
            e.due("nothing went", r.rope(2, 2) + r.count(3), 0);
            e.due("at its end", Check.town("l4,x4,b11,s100").sway(0, 60, 20), 0);
            e.due("PULL 0", Check.town("l4,s100").sway(0, 60, 20), 0);
        });
        e.edge(40, "NONE: no such ones", () -> {
            for (int wrong : new int[] {-1, 3, 6, MIN, MAX}) {
                e.refuses("sway(" + wrong + ", 1, 1)", Edges::some, -1, r -> r.sway(wrong, 1, 1));
            }
            for (int wrong : new int[] {0, -1, 61, MIN, MAX}) {
                e.refuses("sway(0, " + wrong + ", 1)", Edges::some, -1, r -> r.sway(0, wrong, 1));
            }
            for (int wrong : new int[] {0, -1, 21, MIN, MAX}) {
                e.refuses("sway(0, 1, " + wrong + ")", Edges::some, -1, r -> r.sway(0, 1, wrong));
            }
            e.due("no TOWN", Edges.bare().sway(0, 1, 1), -1);
            e.due("a seventh", Edges.full().sway(6, 1, 1), -1);
        });
        e.edge(40, "SLIP by draws on the side", () -> {
            int due = Edges.some().sway(0, 60, 20);
            e.refuses("the TOWN's draws stay", Edges::some, due, r -> r.sway(0, 60, 20));
        });
    }

    // ---- promises 41 and 42

    private void images() {
        e.edge(41, "An IMAGE (instead of the one ahead): MINUTES", () -> {
            RopeRooms r = Check.town("l20,b99");
            e.due("at 0", r.image(), 0);
            e.due("again", r.image(), 0);
            r.minutes(3);
            e.due("back to 0", r.back(), 0);
            r.minutes(2);
            e.due("at 2, instead", r.image(), 2);
            r.minutes(60);
            e.due("back to 2", r.back(), 2);
            e.due("X", r.rope(0, 2), 2);
            e.due("an IMAGE changes nothing: MINUTES", r.count(3), 2);
        });
        e.refused(41, "NONE: no TOWN", Edges::ruled, -1, List.of(r -> r.image()));
        e.edge(42, "BACK: MINUTES", () -> {
            RopeRooms r = Check.town("l20,b99");
            r.image();
            e.due("at once", r.back(), 0);
            e.due("again", r.back(), 0);
            r.minutes(60);
            r.rest();
            e.due("from afar", r.back(), 0);
            e.due("count(3)", r.count(3), 0);
        });
        e.edge(42, "NONE: no IMAGE of this TOWN", () -> {
            e.refuses("none", () -> Check.town("l4,b99"), -1, r -> r.back());
            e.refuses("no TOWN", Edges::bare, -1, r -> r.back());
            e.refuses("one of another TOWN", Edge33to43Test::anotherTown, -1, r -> r.back());
            RopeRooms r = Edges.some();
            Check.tape(r, "l21");
            r.text(0, 0);
            e.due("a faulty text leaves it", r.back(), 0);
            RopeRooms rule = Edges.some();
            Check.rule(rule, "y:1");
            e.due("a RULE leaves it", rule.back(), 0);
            RopeRooms other = anotherTown();
            other.image();
            e.due("one of this TOWN", other.back(), 0);
        });
    }

    private static RopeRooms anotherTown() {
        RopeRooms r = Edges.some();
        Check.tape(r, "l8,x3,b11,s40;k1,l8,x2,a9,b20,u1;k2,l5,x2");
        r.text(0, 42);
        return r;
    }

    private void backAgain() {
        e.edge(42, "An IMAGE keeps X, TRAVEL, BRAKES, WATER, where PERSONS are, MINUTES, draws; BACK: they are so again",
            () -> {
            RopeRooms r = Check.town("l20,x2,b11,s50;l9,x4,a12;k2,l7,x3", 4);
            r.gallery(2);
            r.beside(0, 12, true);
            r.person(1, 12);
            r.water(1, 1);
            r.brake(1, false);
            r.minutes(1);
            int x = r.rope(0, 2);
            int travel = r.rope(0, 7);
            e.due("image", r.image(), 1);
            int steps = r.minutes(9);
            r.back();
            r.turn(2, 4);
            r.rest();
            r.water(1, 99);
            r.brake(0, false);
            r.brake(1, true);
            r.minutes(5);
            r.want(0, 200);
            r.woke(0, 200);
            e.due("back", r.back(), 1);
            e.due("X", r.rope(0, 2), x);
            e.due("X of a screw", r.rope(2, 2), 3);
            e.due("TRAVEL", r.rope(0, 7), travel);
            e.due("BRAKES", r.rope(0, 6) * 10 + r.rope(1, 6), 10);
            e.due("WATER", r.room(1, 3), 1);
            e.due("MINUTES", r.count(3), 1);
            e.due("WANTED is not of it", r.together(0), 0);
            e.due("SEEN is not of it", r.slipped(1), 0);
            e.due("draws", r.minutes(9), steps);
        });
        e.edge(42, "where PERSONS are", () -> {
            RopeRooms r = Check.town("l4,x2");
            r.gallery(2);
            r.beside(0, 12, true);
            r.person(1, 12);
            r.image();
            r.step(0, 0);
            r.person(2, 1);
            r.task(1, 0);
            r.gallery(3);
            e.due("back", r.back(), 0);
            e.due("where it was", r.where(0), 12);
            e.due("who came later stays", r.where(1), 1);
            e.due("PERSONS", r.count(5), 2);
            e.due("GALLERIES", r.count(4), 2);
            e.due("TASKS", r.count(6), 1);
            e.due("BESIDE", r.meet(0, 12), 1);
            for (int i = 2; i < 8; i++) {
                r.person(9, 12);
            }
            r.image();
            e.due("eight of them", r.back(), 0);
            e.due("the eighth", r.where(7), 12);
        });
    }

    // ---- promise 43

    private void counts() {
        e.edge(43, "0 ROPES, 1 RULES, 2 bytes of the TAPE, 3 MINUTES, 4 GALLERIES, 5 PERSONS, 6 TASKS", () -> {
            int[] none = {0, 0, 0, 0, 0, 0, 0};
            int[] full = {6, 4, 160, 1, 6, 8, 6};
            RopeRooms bare = Edges.bare();
            RopeRooms r = Edges.full();
            for (int what = 0; what <= 6; what++) {
                e.due("new: count(" + what + ")", bare.count(what), none[what]);
                e.due("full: count(" + what + ")", r.count(what), full[what]);
            }
        });
        e.refused(43, "HIDDEN for others", Edges::some, HIDDEN,
            List.of(r -> r.count(-1), r -> r.count(7), r -> r.count(MIN), r -> r.count(MAX)));
        e.edge(43, "others", () -> {
            e.due("no TOWN: count(7)", Edges.bare().count(7), HIDDEN);
            e.due("no TOWN: count(-1)", Edges.bare().count(-1), HIDDEN);
        });
        e.edge(43, "`NONE = -1`", () -> e.due("NONE", RopeRooms.NONE, -1));
        e.edge(43, "`HIDDEN = -1000000`", () -> e.due("HIDDEN", RopeRooms.HIDDEN, -1000000));
    }
}
