import java.util.List;

/** Boundary cases of promises 21 to 29: WANTED, PAILS, TOGETHER, TASKS, ORDERS, SEEN, SLIPPED, RENT, EVEN. */
public final class Edge21to29Test {
    private static final int MIN = Edges.MIN;
    private static final int MAX = Edges.MAX;
    private static final int HIDDEN = -1000000;
    private static final String CHAIN = "l20,x20;l20,x20,u0;l20,x20,u2;l20,x20,u4;l20,x20,u6;l20,x20,u8";
    /** Rooms that a TOWN of three ROPES does not have, NONE aside. */
    private static final int[] NO_ROOMS = {-2, 6, 11, 12, 18, MIN, MAX};

    private final Edges e;

    private Edge21to29Test(Edges e) {
        this.e = e;
    }

    public static void main(String[] args) {
        Edges e = new Edges("Edge21to29Test");
        tell(e);
        e.run();
    }

    static void tell(Edges e) {
        Edge21to29Test t = new Edge21to29Test(e);
        t.wanting();
        t.pails();
        t.pailsOfSeveral();
        t.pailsDeepDown();
        t.pailsByTrying();
        t.together();
        t.leavingOut();
        t.anyWhoHang();
        t.tasks();
        t.orders();
        t.waking();
        t.slipped();
        t.rents();
        t.even();
    }

    // ---- promise 21

    private void wanting() {
        e.edge(21, "A WANTED height (-1: none; 0 .. 200)", () -> {
            RopeRooms r = Check.town("l4,x4");
            e.due("nothing WANTED at first", r.together(0), 1);
            e.due("want(1, 0)", r.want(1, 0), true);
            e.due("0 can be", r.together(0), 1);
            e.due("it is so", r.pails(-1), 0);
            e.due("want(1, 200)", r.want(1, 200), true);
            e.due("200 can't be", r.together(0), 0);
            e.due("want(1, 199)", r.want(1, 199), true);
            e.due("199 can't be", r.together(1), 2);
            e.due("want(1, -1)", r.want(1, -1), true);
            e.due("none WANTED", r.together(0), 1);
            e.due("none WANTED, told again", r.want(1, -1), true);
            RopeRooms high = Check.town(CHAIN);
            e.due("the last room", high.want(11, 100), true);
            e.due("the highest that can be", high.want(10, 120), true);
            e.due("they can be so", high.together(0), 1);
            high.want(10, 121);
            e.due("one higher can't be", high.together(0), 0);
        });
        e.edge(21, "False: no such room", () -> {
            for (int wrong : NO_ROOMS) {
                e.refuses("want(" + wrong + ", 3)", Edges::some, 0, r -> Edges.bit(r.want(wrong, 3)));
                e.refuses("want(" + wrong + ", -1)", Edges::some, 0, r -> Edges.bit(r.want(wrong, -1)));
            }
            e.refuses("want(-1, 3)", Edges::some, 0, r -> Edges.bit(r.want(-1, 3)));
            e.refuses("no TOWN", Edges::bare, 0, r -> Edges.bit(r.want(0, 3)));
        });
        e.refused(21, "False: out of bounds", Edges::some, 0, List.of(r -> Edges.bit(r.want(0, -2)),
            r -> Edges.bit(r.want(0, 201)), r -> Edges.bit(r.want(5, MIN)), r -> Edges.bit(r.want(5, MAX))));
    }

    // ---- promise 22

    private void due(RopeRooms r, String what, int n, int... given) {
        e.due(what + ": pails(NONE)", r.pails(-1), n);
        for (int room = 0; room < given.length; room++) {
            e.due(what + ": pails(" + room + ")", r.pails(room), given[room]);
        }
    }

    private void pails() {
        e.edge(22, "PAILS: the fewest of 1 WEIGHT each, carried into or out of rooms of the TOWN (WATER stays within"
            + " 0 .. 99; 4 at most)", () -> {
            for (int hold = 0; hold <= 4; hold++) {
                RopeRooms r = Check.town("l6,x2,h" + hold);
                r.want(0, 0);
                if (hold < 4) {
                    due(r, "HOLD " + hold, hold + 1, hold + 1, 0);
                } else {
                    due(r, "HOLD " + hold, HIDDEN, HIDDEN, HIDDEN);
                }
            }
            for (int water = 95; water <= 99; water++) {
                RopeRooms r = Check.town("l6,x2,h3");
                r.water(0, water);
                r.water(1, water);
                r.want(0, 0);
                int in = Math.min(4, 99 - water);
                due(r, "at most 99 in a room, from " + water, 4, in, in - 4);
            }
            for (int water = 0; water <= 4; water++) {
                RopeRooms r = Check.town("l6,x2,h3,a1,b" + (99 - water));
                r.water(0, 99);
                r.water(1, water);
                r.person(1, 1);
                r.want(0, 0);
                due(r, "not below 0 in a room, from " + water, water < 4 ? HIDDEN : 4, water < 4 ? HIDDEN : 0,
                    water < 4 ? HIDDEN : -4);
            }
        });
        e.edge(22, "by which, at REST from as it is, all WANTED are so", () -> {
            RopeRooms r = Check.town("l6,x2,b16");
            r.want(0, 6);
            due(r, "it goes there", 0, 0, 0);
            r.want(0, 2);
            due(r, "held where it is", 1, 1, 0);
            r.want(0, 3);
            due(r, "no REST on the way", HIDDEN, HIDDEN, HIDDEN);
            r.want(0, -1);
            due(r, "nothing WANTED", 0, 0, 0);
            e.due("nothing was carried", r.room(0, 3) + r.room(1, 3) + r.count(3), 0);
            RopeRooms all = Check.town("l6,x2,h0;l6,x2,h0;l6,x2,h0;l6,x2,h0;l6,x2,h0;l6,x2,h0");
            for (int room = 0; room < 8; room += 2) {
                all.want(room, 0);
            }
            due(all, "one for each of four", 4, 1, 0, 1, 0, 1, 0, 1, 0, 0, 0, 0, 0);
            all.want(8, 0);
            due(all, "five are too many", HIDDEN, HIDDEN);
        });
        e.refused(22, "HIDDEN: not with 4", () -> wish(4), HIDDEN, List.of(r -> r.pails(-1), r -> r.pails(0),
            r -> r.pails(1)));
        e.edge(22, "HIDDEN: no such room", () -> {
            for (int wrong : NO_ROOMS) {
                e.refuses("pails(" + wrong + ")", Edges::some, HIDDEN, r -> r.pails(wrong));
                e.due("pails(" + wrong + ") with nothing WANTED", Check.town("l4;l4;l4").pails(wrong), HIDDEN);
            }
        });
        e.refused(22, "HIDDEN: no TOWN", Edges::ruled, HIDDEN, List.of(r -> r.pails(-1), r -> r.pails(0)));
    }

    private static RopeRooms wish(int hold) {
        RopeRooms r = Check.town("l6,x2,h" + hold);
        r.want(0, 0);
        return r;
    }

    private void pailsOfSeveral() {
        e.edge(22, "of several that with the greater number (in above 0, out below) at the first room where two differ",
            () -> {
            RopeRooms r = Check.town("l6,x2,h0");
            r.water(0, 50);
            r.water(1, 50);
            r.want(0, 0);
            due(r, "1 into room 0 rather than 1 out of room 1", 1, 1, 0);
            r.water(0, 99);
            r.water(1, 99);
            due(r, "room 0 is full", 1, 0, -1);
            r.want(0, 6);
            due(r, "both full: out of room 0", 1, -1, 0);
            r.water(0, 50);
            r.water(1, 50);
            due(r, "into room 1 rather than out of room 0", 1, 0, 1);
            RopeRooms two = Check.town("l6,x2,h1");
            two.water(0, 98);
            two.water(1, 98);
            two.want(0, 6);
            due(two, "one in, then one out: 0 and 2 can't be", 2, -1, 1);
            two.water(0, 97);
            two.water(1, 97);
            due(two, "none out of room 0, two into room 1", 2, 0, 2);
            RopeRooms hang = Check.town("l6,x2,a10,b50,h0;l4,x2,u0;l4,x2,u2");
            hang.want(0, 0);
            due(hang, "into room 0 rather than into what hangs there", 1, 1, 0, 0, 0, 0, 0);
            RopeRooms deep = Check.town("l6,x2,a10,b50,h0;l4,x2,h0,a10,b30,u0;l4,x2,h0,u2");
            deep.want(0, 0);
            deep.want(4, 0);
            deep.want(2, 2 - 2);
            due(deep, "one pail at the lowest moves all three", 1, 0, 0, 0, 0, 1, 0);
        });
    }

    private void pailsDeepDown() {
        e.edge(22, "carried into or out of rooms of the TOWN", () -> {
            for (int hold = 0; hold <= 8; hold++) {
                RopeRooms r = Check.town("k1,l6,x2,a10,b20,h" + hold);
                r.want(0, 0);
                int n = hold / 2 + 1;
                due(r, "geared, HOLD " + hold, n > 4 ? HIDDEN : n, n > 4 ? HIDDEN : n, n > 4 ? HIDDEN : 0);
            }
            // A chain of six on first rooms, all but the ends held: one pail at its end moves both ends.
            RopeRooms chain = Check.town("l4,x2,a1,b11,h0;l4,x2,a1,b1,h99,u0;l4,x2,a1,b1,h99,u2;l4,x2,a1,b1,h99,u4;"
                + "l4,x2,a1,b1,h99,u6;l4,x2,a1,b1,h0,u8");
            chain.want(0, 0);
            chain.want(10, 8);
            due(chain, "both ends of a chain", 1, 0, 0, 0, 0, 0, 0, 0, 0, 0, 0, 1, 0);
            // The same with screws between, all other rooms full.
            RopeRooms screws = Check.town("l4,x2,a1,b99,h0;k2,l4,a1,b1,u0;k2,l4,a1,b1,u2;k2,l4,a1,b1,u4;k2,l4,a1,b1,u6;"
                + "k2,l4,a1,b1,u8");
            int[] water = {87, 99, 0, 99, 0, 0, 0, 0, 0, 0, 0, 1};
            for (int room = 0; room < 12; room++) {
                screws.water(room, water[room]);
            }
            // Room 0 bears 1 and 87 and 10 and 99 and 1: as much as 99 and 99.
            screws.want(1, 4);
            due(screws, "into room 0", 1, 1, 0);
            screws.want(1, 0);
            due(screws, "out of room 0, which comes last: out of what hangs there", 1, 0, 0, 0, 0, 0, 0, 0, 0, 0, 0, 0, -1);
            // A chain on second rooms; the last ROPE alone is WANTED elsewhere, then all are.
            RopeRooms second = Check.town("l4,x2,a1,b1,h99;l4,x2,a1,b1,h99,u1;l4,x2,a1,b1,h99,u3;l4,x2,a1,b1,h99,u5;"
                + "l4,x2,a1,b1,h99,u7;l4,x2,a1,b1,h0,u9");
            second.want(10, 10);
            due(second, "the last of a chain", 1, 0, 0, 0, 0, 0, 0, 0, 0, 0, 0, 1, 0);
            for (int p = 0; p < 5; p++) {
                second.want(2 * p, 2 * p + 2);
                second.want(2 * p + 1, 2 * p + 2);
            }
            second.want(11, 14);
            due(second, "all of a chain WANTED", 1, 0, 0, 0, 0, 0, 0, 0, 0, 0, 0, 1, 0);
            second.want(9, 11);
            due(second, "one of them elsewhere", HIDDEN, HIDDEN);
            // The lowest of three alone is WANTED, those above must bring it there.
            RopeRooms three = Check.town("l4,x2,a1,b5,h0;l4,x2,a1,b3,h1,u0;l4,x2,a1,b1,h2,u2");
            for (int h = 0; h <= 12; h++) {
                int want = h;
                int[] wanted = {-1, -1, -1, -1, want, -1};
                int[] given = Brute.pails(() -> Check.town("l4,x2,a1,b5,h0;l4,x2,a1,b3,h1,u0;l4,x2,a1,b1,h2,u2"), wanted);
                three.want(4, want);
                for (int room = 0; room < 6; room++) {
                    e.due("room 4 at " + h + ": pails(" + room + ")", three.pails(room), given == null ? HIDDEN : given[room]);
                }
            }
        });
    }

    private void pailsByTrying() {
        e.edge(22, "PAILS: how many (room NONE), how many into a room (below 0: out)", () -> {
            int[][] wishes = {
                {-1, -1, -1, -1}, {0, -1, -1, -1}, {-1, 0, -1, -1}, {-1, -1, 0, -1}, {-1, -1, -1, 0}, {-1, 6, -1, -1},
                {-1, -1, 6, -1}, {-1, -1, 8, -1}, {-1, -1, 10, -1}, {-1, -1, -1, 4}, {-1, -1, -1, 8}, {6, -1, 6, -1},
                {6, -1, -1, 6}, {0, 6, 4, -1}, {0, 6, 0, 4}, {2, -1, 4, 4}, {2, 4, 2, -1}, {-1, -1, -1, 10}, {-1, 4, -1, 2}
            };
            String[] towns = {
                "l6,x2,a10,b30,h1;l4,x2,h1,u0", "l6,x2,a30,b10,h0;l4,x2,h1,u1", "l6,x2,h1;l4,x2,h2", "l6,x2;k1,l4,x2,b20,h2",
                "k1,l6,x2,a10,b39;l4,x2,h0,u0", "k2,l6,x2;l4,x2,h1,u0", "l6,x2,h3,r1,b9;l4,x1,r1,u1,h1"
            };
            for (String town : towns) {
                for (int[] wanted : wishes) {
                    for (int water : new int[] {0, 1, 99}) {
                        RopeRooms r = wet(town, water);
                        for (int room = 0; room < 4; room++) {
                            r.want(room, wanted[room]);
                        }
                        int[] given = Brute.pails(() -> wet(town, water), wanted);
                        int n = 0;
                        for (int room = 0; room < 4; room++) {
                            int due = given == null ? HIDDEN : given[room];
                            n += given == null ? 0 : Math.abs(given[room]);
                            e.due("pails(" + room + ") of " + town, r.pails(room), due);
                        }
                        e.due("pails(NONE) of " + town, r.pails(-1), given == null ? HIDDEN : n);
                    }
                }
            }
        });
    }

    private static RopeRooms wet(String town, int water) {
        RopeRooms r = Check.town(town);
        r.water(0, water);
        r.water(3, water);
        r.brake(1, water != 1);
        return r;
    }

    // ---- promise 23

    private void together() {
        e.edge(23, "TOGETHER: whether some X of all ROPES (geared ones even) give all WANTED", () -> {
            RopeRooms r = Check.town("l7;k1,l8");
            e.due("nothing WANTED", r.together(0), 1);
            r.want(0, 0);
            r.want(1, 7);
            e.due("X 0", r.together(0), 1);
            r.want(0, 7);
            r.want(1, 0);
            e.due("X LENGTH", r.together(0), 1);
            r.want(1, -1);
            r.want(0, 8);
            e.due("X above LENGTH", r.together(0), 0);
            r.want(0, -1);
            for (int x = 0; x <= 9; x++) {
                r.want(2, x);
                r.want(3, -1);
                e.due("geared, X " + x, r.together(0), x % 2 == 0 && x <= 8 ? 1 : 0);
                r.want(2, -1);
                r.want(3, x);
                e.due("geared, its second room at " + x, r.together(0), x <= 4 ? 1 : 0);
            }
            RopeRooms screw = Check.town("k2,l5,x1");
            screw.want(0, 5);
            e.due("a screw's X too", screw.together(0), 1);
            e.due("and nobody out", screw.together(1), 0);
        });
        e.refused(23, "NONE: no TOWN", Edges::ruled, -1, List.of(r -> r.together(0), r -> r.together(1)));
        e.refused(23, "NONE: no such what", Edges::some, -1,
            List.of(r -> r.together(2), r -> r.together(-1), r -> r.together(MIN), r -> r.together(MAX)));
    }

    private void leavingOut() {
        e.edge(23, "if not, whom to leave out: the fewest rooms WANTED without which it can be (of several the set with"
            + " the lower room where two first differ)", () -> {
            RopeRooms r = Check.town("l7;l7");
            e.due("nothing WANTED", r.together(1), 0);
            r.want(0, 3);
            r.want(1, 3);
            e.due("one of two: the lower", r.together(1), 1);
            r.want(0, 8);
            e.due("the one that can never be", r.together(1), 1);
            r.want(0, 3);
            r.want(1, 8);
            e.due("the other one that can never be", r.together(1), 2);
            r.want(2, 3);
            r.want(3, 3);
            e.due("and the lower of the second ROPE", r.together(1), 2 + 4);
            RopeRooms six = Check.town("l4;l4;l4;l4;l4;l4");
            for (int room = 0; room < 12; room++) {
                six.want(room, 200);
            }
            e.due("all twelve", six.together(1), 4095);
            for (int room = 0; room < 12; room++) {
                six.want(room, 3);
            }
            e.due("the lower of each", six.together(1), 0x555);
            // Rooms 2 .. 5 hang on room 0; they want it at 1, it wants to be at 0: one out against four.
            RopeRooms hang = Check.town("l4;l4,u0;l4,u0");
            hang.want(0, 0);
            hang.want(2, 1);
            hang.want(3, 5);
            hang.want(4, 1);
            hang.want(5, 5);
            e.due("the fewest, not the lowest: 0 alone", hang.together(1), 1);
            hang.want(1, 4);
            e.due("0 and 1 against one of each ROPE: the set with 0", hang.together(1), 1 + 2);
            hang.want(4, -1);
            hang.want(5, -1);
            e.due("one against two: 3, which can't be at 5 then", hang.together(1), 8);
        });
    }

    private void anyWhoHang() {
        e.edge(23, "the fewest rooms WANTED without which it can be", () -> {
            String[] towns = {
                "l2;l3,u1;l3,u2;k1,l4,u3", "l2;l2,u0;l2,u3;k1,l2,u1;l2,u5;l2,u9", "l3;l2,u1;l4,u3;k2,l2,u5;k1,l4,u7;l2,u0"
            };
            for (String town : towns) {
                RopeRooms r = Check.town(town);
                Brute all = new Brute(r);
                int[] wanted = new int[2 * r.count(0)];
                for (int i = 0; i < 150; i++) {
                    for (int room = 0; room < wanted.length; room++) {
                        wanted[room] = (i * 7 + room * (i + 3)) % 11 - 1;
                        r.want(room, wanted[room]);
                    }
                    int out = all.leaveOut(wanted);
                    e.due("together(1) of " + town + ", " + i, r.together(1), out);
                    e.due("together(0) of " + town + ", " + i, r.together(0), out == 0 ? 1 : 0);
                }
            }
        });
    }

    // ---- promise 24

    private void tasks() {
        e.edge(24, "TASKS (6 at most): a PERSON and a PLACE to which it is to step", () -> {
            RopeRooms r = Edges.some();
            for (int n = 3; n <= 6; n++) {
                e.due("task " + n, r.task(n % 2, n % 2 == 0 ? 5 : 13), n);
                e.due("count(6)", r.count(6), n);
            }
            e.due("a seventh", r.task(0, 0), -1);
            e.due("count(6) then", r.count(6), 6);
            RopeRooms same = Check.town("l4");
            same.person(1, 0);
            e.due("to where it is", same.task(0, 0), 1);
            e.due("the same again", same.task(0, 0), 2);
        });
        e.refused(24, "NONE: no such PERSON", Edges::some, -1, List.of(r -> r.task(-1, 0), r -> r.task(2, 0),
            r -> r.task(8, 0), r -> r.task(MIN, 0), r -> r.task(MAX, 0)));
        e.edge(24, "no such PERSON", () -> {
            e.refuses("nobody there", () -> Check.town("l4"), -1, r -> r.task(0, 0));
            e.refuses("no TOWN", Edges::bare, -1, r -> r.task(0, 0));
        });
        e.edge(24, "NONE: PLACE", () -> {
            for (int wrong : new int[] {-1, 6, 11, 14, 17, 18, MIN, MAX}) {
                e.refuses("task(0, " + wrong + ")", Edges::some, -1, r -> r.task(0, wrong));
            }
        });
        e.refused(24, "NONE: there are six", Edges::full, -1, List.of(r -> r.task(0, 0), r -> r.task(7, 17)));
    }

    // ---- promise 25

    /** A PERSON in room 0 at 2, GALLERIES 12 .. 17 there too, in a row from room 0 on; TASKS to all of them. */
    private static RopeRooms row(boolean forward) {
        RopeRooms r = Check.town("l4,x2,h99");
        r.person(1, 0);
        for (int g = 0; g < 6; g++) {
            r.gallery(2);
        }
        r.beside(0, forward ? 12 : 17, true);
        for (int g = 12; g < 17; g++) {
            r.beside(g, g + 1, true);
        }
        for (int g = 12; g <= 17; g++) {
            r.task(0, g);
        }
        return r;
    }

    private void orders() {
        e.edge(25, "ORDERS: of all orders of them those in which, the TOWN coming to REST ahead of each TASK, each can STEP"
            + " as told: how many", () -> {
            RopeRooms r = Check.town("l4,x2,h99");
            r.beside(0, 1, true);
            for (int i = 0; i < 6; i++) {
                r.person(1, 0);
                r.task(i, 1);
                int[] all = {1, 2, 6, 24, 120, 720};
                e.due((i + 1) + " TASKS in any order", r.orders(0), all[i]);
            }
            e.due("row", row(true).orders(0), 1);
            // Whoever steps first is heavy enough that the room goes off with it.
            RopeRooms off = Check.town("l4,x2,a10,b10,h8");
            off.beside(0, 1, true);
            off.person(9, 0);
            off.person(1, 0);
            off.water(1, 2);
            off.task(0, 1);
            off.task(1, 1);
            e.due("carried off behind the first of two", off.orders(0), 1);
            e.due("the other one first", off.orders(1), 10);
            off.water(1, 0);
            e.due("carried off ahead of all", off.orders(0), 0);
            e.due("TOWN as it was", off.rope(0, 2) * 10 + off.where(0), 20);
        });
        e.edge(25, "the first (as digits to the base 10, the first TASK the highest)", () -> {
            e.due("in a row", row(true).orders(1), 12345);
            e.due("in a row from the other end", row(false).orders(1), 543210);
            RopeRooms one = Check.town("l4,x2");
            one.person(1, 0);
            one.beside(0, 1, true);
            one.task(0, 1);
            e.due("one TASK", one.orders(1), 0);
            one.task(0, 0);
            e.due("there and back", one.orders(1), 1);
            e.due("in no other order", one.orders(0), 1);
            RopeRooms all = Check.town("l4,x2,h99");
            all.beside(0, 1, true);
            for (int i = 0; i < 6; i++) {
                all.person(1, 0);
                all.task(i, 1);
            }
            e.due("the first of all 720", all.orders(1), 12345);
        });
        e.edge(25, "NONE: no TASKS", () -> {
            for (int what = -1; what <= 2; what++) {
                int w = what;
                e.refuses("orders(" + w + ")", () -> Check.town("l4"), -1, r -> r.orders(w));
                e.due("no TOWN", Edges.bare().orders(w), -1);
            }
        });
        e.edge(25, "NONE: none (1)", () -> {
            RopeRooms r = Check.town("l4,x2");
            r.person(1, 0);
            r.task(0, 1);
            e.due("orders(0)", r.orders(0), 0);
            e.due("orders(1)", r.orders(1), -1);
            RopeRooms own = Check.town("l4,x2");
            own.person(1, 0);
            own.task(0, 0);
            e.due("its own PLACE does not MEET", own.orders(1), -1);
        });
        e.refused(25, "NONE: no such what", () -> row(false), -1,
            List.of(r -> r.orders(2), r -> r.orders(-1), r -> r.orders(MIN), r -> r.orders(MAX)));
    }

    // ---- promise 26

    private void waking() {
        e.edge(26, "A height SEEN of a room (-1: none; 0 .. 200)", () -> {
            RopeRooms r = Check.town("l4,x4");
            e.due("nothing SEEN at first", r.slipped(1), 1);
            e.due("woke(1, 0)", r.woke(1, 0), true);
            e.due("0 is so", r.slipped(1), 1);
            e.due("woke(1, 200)", r.woke(1, 200), true);
            e.due("200 is not", r.slipped(1), 0);
            e.due("woke(1, -1)", r.woke(1, -1), true);
            e.due("none SEEN", r.slipped(1), 1);
            e.due("none SEEN, told again", r.woke(1, -1), true);
            RopeRooms last = Edges.full();
            e.due("the last room", last.woke(11, 200), true);
            e.due("it was not there", last.slipped(1), 0);
        });
        e.edge(26, "False: no such room", () -> {
            for (int wrong : NO_ROOMS) {
                e.refuses("woke(" + wrong + ", 3)", Edges::some, 0, r -> Edges.bit(r.woke(wrong, 3)));
                e.refuses("woke(" + wrong + ", -1)", Edges::some, 0, r -> Edges.bit(r.woke(wrong, -1)));
            }
            e.refuses("woke(-1, 3)", Edges::some, 0, r -> Edges.bit(r.woke(-1, 3)));
            e.refuses("no TOWN", Edges::bare, 0, r -> Edges.bit(r.woke(0, 3)));
        });
        e.refused(26, "False: out of bounds", Edges::some, 0, List.of(r -> Edges.bit(r.woke(4, -2)),
            r -> Edges.bit(r.woke(4, 201)), r -> Edges.bit(r.woke(5, MIN)), r -> Edges.bit(r.woke(5, MAX))));
    }

    // ---- promise 27

    private void slipped() {
        e.edge(27, "SLIPPED: ROPES which, if just that BRAKE were off for so many MINUTES (1 .. 60; all others as they are,"
            + " no SLIP), would have brought all rooms SEEN to where they were SEEN", () -> {
            RopeRooms r = Check.town("l20,b11,s100;l20,b11,s100;l20,b99;l20,b11");
            r.brake(3, false);
            e.due("nothing SEEN: any of them", r.slipped(1), 15);
            r.woke(0, 1);
            e.due("room 0 at 1 behind 1", r.slipped(1), 1);
            e.due("room 0 at 1 behind 2", r.slipped(2), 0);
            r.woke(0, 20);
            e.due("room 0 at 20 behind 19", r.slipped(19), 0);
            e.due("room 0 at 20 behind 20", r.slipped(20), 1);
            e.due("room 0 at 20 behind 60", r.slipped(60), 1);
            r.woke(2, 20);
            e.due("both: not by one alone", r.slipped(60), 0);
            r.woke(0, 0);
            e.due("room 2 at 20, room 0 stayed", r.slipped(60), 2);
            r.woke(2, 0);
            e.due("neither went: one of the others", r.slipped(60), 4 + 8);
            r.woke(4, 20);
            r.woke(6, 20);
            e.due("these went anyhow", r.slipped(60), 4 + 8);
            r.woke(6, 19);
            e.due("SEEN elsewhere", r.slipped(60), 0);
            e.due("nothing went", r.rope(2, 2) + r.count(3), 0);
            e.due("six ROPES, nothing SEEN", Check.town("l4;l4;l4;l4;l4;l4").slipped(60), 63);
        });
        e.refused(27, "NONE: no TOWN", Edges::ruled, -1, List.of(r -> r.slipped(1), r -> r.slipped(60)));
        e.refused(27, "NONE: out of bounds", Edges::some, -1, List.of(r -> r.slipped(0), r -> r.slipped(-1),
            r -> r.slipped(61), r -> r.slipped(MIN), r -> r.slipped(MAX)));
    }

    // ---- promise 28

    private void rents() {
        e.edge(28, "RENT of a room: PRICE (0 .. 99) times HEIGHT; of all", () -> {
            RopeRooms r = Check.town(CHAIN);
            e.due("PRICE 0", r.rent(10, 0), 0);
            e.due("PRICE 1", r.rent(10, 1), 120);
            e.due("PRICE 99", r.rent(10, 99), 11880);
            e.due("HEIGHT 0", r.rent(1, 99), 0);
            e.due("the last room", r.rent(11, 99), 9900);
            e.due("all, PRICE 0", r.rent(-1, 0), 0);
            e.due("all, PRICE 99", r.rent(-1, 99), 99 * (20 + 40 + 60 + 80 + 100 + 120 + 20 + 40 + 60 + 80 + 100));
        });
        e.edge(28, "RENT of a room; of all (room NONE)", () -> {
            e.due("no TOWN: of no rooms", Edges.bare().rent(-1, 5), 0);
            e.due("one ROPE", Check.town("l7,x3").rent(-1, 2), 14);
        });
        e.edge(28, "NONE: no such one", () -> {
            for (int wrong : NO_ROOMS) {
                e.refuses("rent(" + wrong + ", 1)", Edges::some, -1, r -> r.rent(wrong, 1));
            }
            e.refuses("no TOWN", Edges::bare, -1, r -> r.rent(0, 1));
        });
        e.refused(28, "NONE: out of bounds", Edges::some, -1, List.of(r -> r.rent(0, -1), r -> r.rent(0, 100),
            r -> r.rent(-1, -1), r -> r.rent(-1, 100), r -> r.rent(0, MIN), r -> r.rent(-1, MAX)));
        e.edge(28, "out of bounds", () -> {
            e.due("no TOWN, PRICE 100", Edges.bare().rent(-1, 100), -1);
            e.due("no TOWN, PRICE -1", Edges.bare().rent(-1, -1), -1);
        });
    }

    // ---- promise 29

    private void even() {
        e.edge(29, "EVEN: the HEIGHT at which most rooms are (of several the lowest), and how many", () -> {
            even("l7,x2", 2, 1);
            even("l7,x5", 2, 1);
            even("l4,x2", 2, 2);
            even("l4,x4;l4,x4", 0, 2);
            even("l4,x3;l4,x3;l6,x3", 3, 4);
            even("l9,x7;l9,x7;l9,x9", 2, 2);
            even("l4,x2;l4,x2;l4,x2;l4,x2;l4,x2;l4,x2", 2, 12);
            even("l20,x20;l20,x20,u0;l20,x20,u2", 20, 2);
            even(CHAIN, 20, 2);
            even("l20,x20;l20,x20,u0;l20,x20,u2;l20,x20,u2;l20,x20,u2", 40, 4);
        });
        e.refused(29, "NONE: no TOWN", Edges::ruled, -1, List.of(r -> r.even(0), r -> r.even(1)));
        e.refused(29, "NONE: no such what", Edges::some, -1,
            List.of(r -> r.even(2), r -> r.even(-1), r -> r.even(MIN), r -> r.even(MAX)));
    }

    private void even(String text, int height, int rooms) {
        RopeRooms r = Check.town(text);
        e.due("even(0) of " + text, r.even(0), height);
        e.due("even(1) of " + text, r.even(1), rooms);
    }
}
