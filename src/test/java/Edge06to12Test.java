import java.util.List;

/** Boundary cases of promises 6 to 12: ROPES, rooms, BRAKES, WATER, screws, MINUTES with draws, REST. */
public final class Edge06to12Test {
    private static final int MIN = Edges.MIN;
    private static final int MAX = Edges.MAX;
    private static final int HIDDEN = -1000000;
    private static final String CHAIN = "l20,x20;l20,x20,u0;l20,x20,u2;l20,x20,u4;l20,x20,u6;l20,x20,u8";

    private final Edges e;

    private Edge06to12Test(Edges e) {
        this.e = e;
    }

    public static void main(String[] args) {
        Edges e = new Edges("Edge06to12Test");
        tell(e);
        e.run();
    }

    static void tell(Edges e) {
        Edge06to12Test t = new Edge06to12Test(e);
        t.ropes();
        t.pulls();
        t.rooms();
        t.brakesAndWater();
        t.turning();
        t.minutes();
        t.going();
        t.draws();
        t.resting();
    }

    // ---- promise 6

    private void ropes() {
        e.edge(6, "Of a ROPE: 0 KIND, 1 LENGTH, 2 X, 3 HOLD, 4 SLIP, 5 on which room (NONE), 6 whether its BRAKE is on"
            + " (1, 0), 7 TRAVEL, 8 PULL, 9 how heavy", () -> {
            RopeRooms r = Check.town("l4;k1,l20,x4,a9,b8,h99,s100,r9,u0");
            int[] due = {1, 20, 4, 99, 100, 0, 1, 0, 10, 9};
            for (int what = 0; what <= 9; what++) {
                e.due("rope(1, " + what + ")", r.rope(1, what), due[what]);
            }
        });
        e.edge(6, "5 on which room (NONE)", () -> {
            RopeRooms r = Check.town("l4;l4;u0;u5");
            e.due("on none", r.rope(0, 5), -1);
            e.due("on none, not the first", r.rope(1, 5), -1);
            e.due("on room 0", r.rope(2, 5), 0);
            e.due("on the highest that can be", r.rope(3, 5), 5);
        });
        e.edge(6, "6 whether its BRAKE is on (1, 0)", () -> {
            RopeRooms r = Check.town("l4;l4");
            e.due("on at first", r.rope(1, 6), 1);
            r.brake(1, false);
            e.due("off", r.rope(1, 6), 0);
            r.brake(1, true);
            e.due("on again", r.rope(1, 6), 1);
        });
        e.refused(6, "NoSuchElementException: no such ones", Edges::some, Edges.THROWN, List.of(
            r -> Edges.rope(r, -1, 0), r -> Edges.rope(r, 3, 0), r -> Edges.rope(r, MIN, 0), r -> Edges.rope(r, MAX, 0),
            r -> Edges.rope(r, 0, -1), r -> Edges.rope(r, 0, 10), r -> Edges.rope(r, 0, MIN),
            r -> Edges.rope(r, 0, MAX), r -> Edges.rope(r, 3, 10)));
        e.edge(6, "no such ones", () -> {
            e.refuses("no TOWN", Edges::bare, Edges.THROWN, r -> Edges.rope(r, 0, 0));
            e.refuses("a seventh ROPE", Edges::full, Edges.THROWN, r -> Edges.rope(r, 6, 0));
            e.due("the sixth", Edges.rope(Edges.full(), 5, 1), 9);
        });
        e.edge(6, "TRAVEL of a ROPE: all its steps (geared: 1 each)", () -> {
            RopeRooms r = Check.town("l20,x0,b99;k1,l20,x0,a1,b99;k2,l20,x0");
            r.minutes(60);
            e.due("plain", r.rope(0, 7), 20);
            e.due("geared", r.rope(1, 7), 10);
            r.turn(2, 20);
            e.due("a turned screw did no step", r.rope(2, 7), 0);
            r.water(0, 99);
            r.minutes(60);
            e.due("plain, back again", r.rope(0, 7), 40);
            r.water(0, 0);
            r.rest();
            e.due("steps to REST too", r.rope(0, 7), 60);
        });
    }

    private void pulls() {
        e.edge(6, "plain: BEARS of the first less that of the second, and r times (LENGTH less 2 X)", () -> {
            e.due("X 0", Check.town("l20,x0,a1,b99,r9").rope(0, 8), 1 - 99 + 9 * 20);
            e.due("X half", Check.town("l20,x10,a1,b99,r9").rope(0, 8), -98);
            e.due("X LENGTH", Check.town("l20,x20,a99,b1,r9").rope(0, 8), 98 - 9 * 20);
            e.due("r 0", Check.town("l20,x20,a99,b1").rope(0, 8), 98);
            e.due("odd LENGTH", Check.town("l3,x2,r1").rope(0, 8), -1);
        });
        e.edge(6, "geared: 2 times BEARS of the first less that of the second", () -> {
            e.due("0", Check.town("k1,a10,b20,r9").rope(0, 8), 0);
            e.due("most", Check.town("k1,a99,b1").rope(0, 8), 197);
            e.due("least", Check.town("k1,a1,b99").rope(0, 8), -97);
        });
        e.edge(6, "screw: 0", () -> {
            RopeRooms r = Check.town("k2,l20,x20,a99,b1,r9,h0;l4,u0");
            r.brake(0, false);
            e.due("pull", r.rope(0, 8), 0);
            e.due("minutes", r.minutes(60), 0);
        });
    }

    // ---- promise 7

    private void rooms() {
        e.edge(7, "Of a room: 0 HEIGHT, 1 WEIGHT, 2 BEARS, 3 WATER", () -> {
            RopeRooms r = Check.town("l9,x9,a99,b1");
            r.water(0, 99);
            int[] due = {9, 99, 198, 99};
            int[] second = {0, 1, 1, 0};
            for (int what = 0; what <= 3; what++) {
                e.due("room(0, " + what + ")", r.room(0, what), due[what]);
                e.due("room(1, " + what + ")", r.room(1, what), second[what]);
            }
        });
        e.refused(7, "HIDDEN: no such ones", Edges::some, HIDDEN, List.of(
            r -> r.room(-1, 0), r -> r.room(6, 0), r -> r.room(11, 0), r -> r.room(12, 0), r -> r.room(MIN, 0),
            r -> r.room(MAX, 0), r -> r.room(0, -1), r -> r.room(0, 4), r -> r.room(5, MIN), r -> r.room(5, MAX)));
        e.edge(7, "no such ones", () -> {
            e.refuses("no TOWN", Edges::bare, HIDDEN, r -> r.room(0, 0));
            e.refuses("a GALLERY is no room", Edges::full, HIDDEN, r -> r.room(12, 0));
            e.due("the last room", Edges.full().room(11, 1), 10);
        });
        e.edge(7, "Place of the first room: X (0 .. LENGTH)", () -> {
            e.due("X 0", Check.town("l7").room(0, 0), 0);
            e.due("X LENGTH", Check.town("l7,x7").room(0, 0), 7);
            e.due("geared", Check.town("k1,l8,x8").room(0, 0), 8);
        });
        e.edge(7, "Of the second: plain LENGTH less X; geared half of (LENGTH less X); screw: LENGTH less X", () -> {
            e.due("plain X 0", Check.town("l7").room(1, 0), 7);
            e.due("plain X LENGTH", Check.town("l7,x7").room(1, 0), 0);
            e.due("geared X 0", Check.town("k1,l20").room(1, 0), 10);
            e.due("geared X 2", Check.town("k1,l20,x2").room(1, 0), 9);
            e.due("geared X LENGTH", Check.town("k1,l20,x20").room(1, 0), 0);
            e.due("geared, the least LENGTH", Check.town("k1,l2").room(1, 0), 1);
            e.due("screw X 0", Check.town("k2,l7").room(1, 0), 7);
            e.due("screw X LENGTH", Check.town("k2,l7,x7").room(1, 0), 0);
        });
        e.edge(7, "HEIGHT of a room: its place, and, if its ROPE hangs on a room, that one's HEIGHT", () -> {
            RopeRooms r = Check.town(CHAIN);
            for (int p = 0; p < 6; p++) {
                e.due("first room of " + p, r.room(2 * p, 0), 20 * (p + 1));
                e.due("second room of " + p, r.room(2 * p + 1, 0), 20 * p);
            }
            RopeRooms low = Check.town("l20,x20;l20,x0,u1;l20,x0,u2");
            e.due("on a room at 0", low.room(2, 0), 0);
            e.due("on one that hangs at 0", low.room(4, 0), 0);
        });
        e.edge(7, "BEARS of a room: its WEIGHT, what is CARRIED there (WATER, PERSONS' weights), and what both rooms of all"
            + " ROPES BEAR that hang on it", () -> {
            RopeRooms r = Check.town(CHAIN);
            for (int p = 0; p < 6; p++) {
                e.due("first room of " + p, r.room(2 * p, 2), 10 + 20 * (5 - p));
                e.due("second room of " + p, r.room(2 * p + 1, 2), 10);
            }
            r.water(10, 99);
            r.gallery(0);
            for (int i = 0; i < 7; i++) {
                r.person(9, 11);
            }
            r.person(9, 12);
            e.due("the lowest: WATER", r.room(10, 2), 109);
            e.due("the lowest: PERSONS", r.room(11, 2), 10 + 63);
            e.due("room 0: all but the one in a GALLERY", r.room(0, 2), 110 + 99 + 63);
            RopeRooms two = Check.town("l4;u0;u0;u1");
            e.due("two ROPES on one room", two.room(0, 2), 50);
            e.due("one on the other", two.room(1, 2), 30);
        });
    }

    // ---- promises 8 and 9

    private void brakesAndWater() {
        e.edge(8, "A BRAKE on, or off", () -> {
            RopeRooms r = Edges.full();
            e.due("brake(0, false)", r.brake(0, false), true);
            e.due("brake(5, false)", r.brake(5, false), true);
            e.due("rope(0, 6)", r.rope(0, 6), 0);
            e.due("rope(5, 6)", r.rope(5, 6), 0);
            e.due("rope(4, 6)", r.rope(4, 6), 1);
            e.due("off as it was", r.brake(5, false), true);
            e.due("on", r.brake(5, true), true);
            e.due("rope(5, 6) then", r.rope(5, 6), 1);
        });
        e.refused(8, "False: no such ROPE", Edges::some, 0, List.of(
            r -> Edges.bit(r.brake(-1, false)), r -> Edges.bit(r.brake(3, false)), r -> Edges.bit(r.brake(6, true)),
            r -> Edges.bit(r.brake(MIN, false)), r -> Edges.bit(r.brake(MAX, true))));
        e.edge(8, "no such ROPE", () -> {
            e.refuses("no TOWN", Edges::bare, 0, r -> Edges.bit(r.brake(0, false)));
            e.refuses("a seventh", Edges::full, 0, r -> Edges.bit(r.brake(6, false)));
        });
        e.edge(9, "WATER (0 .. 99) of a room", () -> {
            RopeRooms r = Edges.full();
            for (int v : new int[] {0, 1, 98, 99, 0}) {
                e.due("water(0, " + v + ")", r.water(0, v), true);
                e.due("room(0, 3)", r.room(0, 3), v);
                e.due("water(11, " + v + ")", r.water(11, v), true);
                e.due("room(11, 3)", r.room(11, 3), v);
            }
        });
        e.refused(9, "False: no such ones", Edges::some, 0, List.of(
            r -> Edges.bit(r.water(0, -1)), r -> Edges.bit(r.water(0, 100)), r -> Edges.bit(r.water(0, MIN)),
            r -> Edges.bit(r.water(0, MAX)), r -> Edges.bit(r.water(-1, 3)), r -> Edges.bit(r.water(6, 3)),
            r -> Edges.bit(r.water(12, 3)), r -> Edges.bit(r.water(MIN, 3)), r -> Edges.bit(r.water(MAX, 3))));
        e.edge(9, "no such ones", () -> {
            e.refuses("no TOWN", Edges::bare, 0, r -> Edges.bit(r.water(0, 3)));
            e.refuses("a GALLERY", Edges::full, 0, r -> Edges.bit(r.water(12, 3)));
        });
    }

    // ---- promise 10

    private void turning() {
        e.edge(10, "X more by n (-20 .. 20), as far as it goes", () -> {
            RopeRooms r = Check.town("k2,l20,x10");
            e.due("turn(0, 0)", r.turn(0, 0), 10);
            e.due("turn(0, 10), just to its end", r.turn(0, 10), 20);
            e.due("turn(0, 1) at its end", r.turn(0, 1), 20);
            e.due("turn(0, -20)", r.turn(0, -20), 0);
            e.due("turn(0, -1) at its end", r.turn(0, -1), 0);
            e.due("turn(0, 20)", r.turn(0, 20), 20);
            e.due("turn(0, -19)", r.turn(0, -19), 1);
            e.due("turn(0, -2) as far as it goes", r.turn(0, -2), 0);
            e.due("rope(0, 2)", r.rope(0, 2), 0);
            e.due("count(3)", r.count(3), 0);
            r.brake(0, false);
            e.due("its BRAKE does not matter", r.turn(0, 5), 5);
            RopeRooms least = Check.town("k2,l2,x1");
            e.due("the shortest, turn(0, 20)", least.turn(0, 20), 2);
            e.due("the shortest, turn(0, -20)", least.turn(0, -20), 0);
        });
        e.refused(10, "NONE: no such ROPE", Edges::some, -1,
            List.of(r -> r.turn(-1, 1), r -> r.turn(3, 1), r -> r.turn(6, 1), r -> r.turn(MIN, 1), r -> r.turn(MAX, 1)));
        e.edge(10, "no such ROPE", () -> e.refuses("no TOWN", Edges::bare, -1, r -> r.turn(0, 0)));
        e.refused(10, "NONE: no screw", Edges::some, -1,
            List.of(r -> r.turn(0, 1), r -> r.turn(1, 2), r -> r.turn(0, 0), r -> r.turn(1, 21)));
        e.refused(10, "NONE: out of bounds", Edges::some, -1,
            List.of(r -> r.turn(2, 21), r -> r.turn(2, -21), r -> r.turn(2, MIN), r -> r.turn(2, MAX)));
    }

    // ---- promise 11

    private void minutes() {
        e.edge(11, "MINUTES (1 .. 60): how many steps ROPES did", () -> {
            RopeRooms r = Check.town("l20,b99;k1,l20,a1,b99;l20;k2,l20");
            e.due("minutes(1)", r.minutes(1), 2);
            e.due("count(3)", r.count(3), 1);
            e.due("minutes(60)", r.minutes(60), 19 + 9);
            e.due("count(3) then", r.count(3), 61);
            e.due("minutes(60) at the ends", r.minutes(60), 0);
            e.due("count(3) at last", r.count(3), 121);
            RopeRooms six = Check.town("b99;b99;b99;b99;b99;b99");
            e.due("six ROPES", six.minutes(1), 6);
            e.due("six ROPES to their ends", six.minutes(60), 54);
        });
        e.refused(11, "NONE: no TOWN", Edges::ruled, -1, List.of(r -> r.minutes(1), r -> r.minutes(60)));
        e.refused(11, "NONE: out of bounds", Edges::some, -1, List.of(
            r -> r.minutes(0), r -> r.minutes(-1), r -> r.minutes(61), r -> r.minutes(MIN), r -> r.minutes(MAX)));
    }

    /** One MINUTE of one ROPE of LENGTH 10 at 5: the X then. */
    private static int after(String items, boolean on) {
        RopeRooms r = Check.town(items);
        r.brake(0, on);
        r.minutes(1);
        return r.rope(0, 2);
    }

    private void going() {
        e.edge(11, "It is FREE, if its BRAKE is off (on at first), or slips", () -> {
            e.due("on: held", after("x5,a11,h99", true), 5);
            e.due("off: goes", after("x5,a11,h99", false), 4);
            e.due("slips always", after("x5,a11,h99,s100", true), 4);
            e.due("on at first", Check.town("x5,a11,h99").minutes(60), 0);
        });
        e.edge(11, "it goes, if it is FREE and PULL is not 0, or PULL (without sign) is above HOLD", () -> {
            e.due("FREE, PULL 0", after("x5", false), 5);
            e.due("FREE, PULL 1", after("x5,a11", false), 4);
            e.due("FREE, PULL -1", after("x5,b11", false), 6);
            e.due("slips, PULL 0", after("x5,s100", true), 5);
            e.due("HOLD 0, PULL 0", after("x5,h0", true), 5);
            e.due("HOLD 0, PULL 1", after("x5,a11,h0", true), 4);
            e.due("HOLD 0, PULL -1", after("x5,b11,h0", true), 6);
            e.due("PULL as HOLD", after("x5,a15", true), 5);
            e.due("PULL one above HOLD", after("x5,a16", true), 4);
            e.due("PULL as HOLD below 0", after("x5,b15", true), 5);
            e.due("PULL one above HOLD below 0", after("x5,b16", true), 6);
            e.due("HOLD 98, PULL 98", after("x5,a99,b1,h98", true), 5);
            e.due("HOLD 97, PULL 98", after("x5,a99,b1,h97", true), 4);
            e.due("a heavy rope by X: PULL 6", after("x2,r1", true), 1);
            e.due("a heavy rope by X: PULL 4", after("x3,r1", true), 3);
            e.due("geared, PULL as HOLD", after("k1,l10,x4,a12,b19", true), 4);
            e.due("geared, PULL one above HOLD", after("k1,l10,x4,a12,b18", true), 2);
        });
        e.edge(11, "with PULL above 0 the first room goes down (X 1 less; geared 2 less), else up", () -> {
            e.due("plain down", after("x5,a99", true), 4);
            e.due("plain up", after("x5,b99", true), 6);
            e.due("geared down", after("k1,x4,a99", true), 2);
            e.due("geared up", after("k1,x4,a1,b99", true), 6);
        });
        e.edge(11, "within 0 .. LENGTH (else it stays, and did not go)", () -> {
            RopeRooms low = Check.town("x1,a99;k1,x2,a99;x0,a99");
            e.due("the last step down", low.minutes(1), 2);
            e.due("no more", low.minutes(1), 0);
            e.due("X 0", low.rope(0, 2) + low.rope(1, 2) + low.rope(2, 2), 0);
            e.due("TRAVEL", low.rope(0, 7) * 100 + low.rope(1, 7) * 10 + low.rope(2, 7), 110);
            RopeRooms high = Check.town("x9,b99;k1,x8,a1,b99;x10,b99");
            e.due("the last step up", high.minutes(1), 2);
            e.due("no more", high.minutes(1), 0);
            e.due("X LENGTH", high.rope(0, 2) * 10000 + high.rope(1, 2) * 100 + high.rope(2, 2), 101010);
            e.due("TRAVEL", high.rope(0, 7) * 100 + high.rope(1, 7) * 10 + high.rope(2, 7), 110);
            RopeRooms least = Check.town("k1,l2,a99;k1,l2,x2,a99");
            e.due("geared of LENGTH 2", least.minutes(60), 1);
            e.due("its X", least.rope(1, 2), 0);
        });
    }

    // ---- promise 11, draws

    private void draws() {
        e.edge(11, "a draw of 100, if its BRAKE is on and SLIP above 0: it slips, if that is below SLIP", () -> {
            for (int slip : new int[] {1, 2, 50, 99, 100}) {
                for (int draw : new int[] {0, slip - 1, slip, 99}) {
                    if (draw <= 99) {
                        long seed = Draws.seedOf(slip * 1000L, draw);
                        RopeRooms r = Check.town("l9,b11,s" + slip, seed);
                        e.due("SLIP " + slip + ", draw " + draw, r.minutes(1), draw < slip ? 1 : 0);
                    }
                }
            }
            long seed = Draws.seedOf(0, 0);
            e.due("SLIP 0, draw 0", Check.town("b11,s0", seed).minutes(1), 0);
            // Which draw comes to the last ROPE tells how many went to those ahead of it.
            long other = Draws.seedOf(0, 99, 0);
            e.due("one draw ahead", last("l9,s1;l9,b11,s1", other, true), 1);
            e.due("none ahead with its BRAKE off", last("l9,s1;l9,b11,s1", other, false), 0);
            e.due("none ahead with SLIP 0", last("l9;l9,b11,s1", other, true), 0);
            e.due("one ahead for a screw", last("k2,l9,s1;l9,b11,s1", other, true), 1);
            e.due("one ahead for what goes anyhow", last("l9,b99,s1;l9,b11,s1", other, true), 1);
            e.due("one ahead for what is at its end", last("l9,a99,s1;l9,b11,s1", other, true), 1);
        });
        e.edge(11, "x, at first the seed of the TOWN, becomes x times 6364136223846793005 and 1442695040888963407"
            + " (64 bits, going round)", () -> {
            long[] seeds = {
                0, 1, -1, Long.MAX_VALUE, Long.MIN_VALUE, Long.MAX_VALUE - 1, Long.MIN_VALUE + 1, 1L << 32, 1L << 33,
                1L << 62, -1L << 33, 0xFFFFFFFFL, 0x1FFFFFFFFL, 6364136223846793005L, -1442695040888963407L
            };
            for (long seed : seeds) {
                RopeRooms r = Check.town("l20,b11,s50", seed);
                Draws d = new Draws(seed);
                int up = 0;
                for (int m = 0; m < 35 && up < 20; m++) {
                    up += d.next() < 50 ? 1 : 0;
                    r.minutes(1);
                    e.due("seed " + seed + ", minute " + m, r.rope(0, 2), up);
                }
            }
        });
        e.edge(11, "a draw of 100: (x shifted right by 33, without sign) modulo 100", () -> {
            // Seeds by which the highest bit of x is set behind the first draw: with a sign it would be below 0.
            int found = 0;
            for (long seed = 0; found < 12; seed++) {
                long x = seed * 6364136223846793005L + 1442695040888963407L;
                if (x < 0) {
                    found++;
                    int draw = new Draws(seed).next();
                    RopeRooms not = Check.town("b11,s" + Math.max(draw, 0), seed);
                    e.due("SLIP as the draw " + draw, not.minutes(1), 0);
                    RopeRooms slips = Check.town("b11,s" + (draw + 1), seed);
                    e.due("SLIP one above the draw " + draw, slips.minutes(1), 1);
                }
            }
        });
        e.edge(11, "In a MINUTE, for each ROPE by numbers", () -> {
            long seed = 2024;
            RopeRooms r = Check.town("b11,s30;b11,s60;b11,s90;a11,x9,s20;k1,a5,b11,s50;a11,x9,s80", seed);
            Draws d = new Draws(seed);
            int[] slip = {30, 60, 90, 20, 50, 80};
            int[] x = {0, 0, 0, 9, 0, 9};
            int[] more = {1, 1, 1, -1, 2, -1};
            for (int m = 0; m < 5; m++) {
                for (int p = 0; p < 6; p++) {
                    x[p] += d.next() < slip[p] ? more[p] : 0;
                }
                r.minutes(1);
                for (int p = 0; p < 6; p++) {
                    e.due("X of " + p + " behind " + (m + 1), r.rope(p, 2), x[p]);
                }
            }
        });
    }

    /** The X of the second ROPE behind one MINUTE. */
    private static int last(String text, long seed, boolean on) {
        RopeRooms r = Check.town(text, seed);
        r.brake(0, on);
        r.minutes(1);
        return r.rope(1, 2);
    }

    // ---- promise 12

    private void resting() {
        e.edge(12, "To come to REST: MINUTES without SLIP (no draws) till one in which nothing goes (that one does not"
            + " count)", () -> {
            e.due("at REST", Check.town("l4").rest(), 0);
            e.due("one MINUTE", Check.town("l4,x3,b99").rest(), 1);
            e.due("the longest", Check.town("l20,b99").rest(), 20);
            e.due("the longest down", Check.town("l20,x20,a99").rest(), 20);
            e.due("geared, the longest", Check.town("k1,l20,a1,b99").rest(), 10);
            e.due("a screw", Check.town("k2,l20,x3,a99,h0").rest(), 0);
            e.due("at its end", Check.town("l20,x20,b99").rest(), 0);
            e.due("SLIP 100 does not count", Check.town("l20,b11,s100").rest(), 0);
            e.due("the longest of several", Check.town("l20,x13,b99;k1,l20,x2,a1,b99;l9,x2,a99").rest(), 9);
            e.due("heavy, just tipping", Check.town("l20,x9,r3").rest(), 9);
            e.due("heavy, held", Check.town("l20,x9,r2").rest(), 0);
            e.due("PULL as HOLD", Check.town("l20,x9,b15").rest(), 0);
            RopeRooms r = Check.town("l20,b99,s50;l9,b11,s1", Draws.seedOf(0, 99, 0));
            e.due("rest", r.rest(), 20);
            e.due("no draws were taken by it", r.minutes(1), 1);
            e.due("the second slipped by the second draw", r.rope(1, 2), 1);
        });
        e.edge(12, "how many MINUTES that were (MINUTES are as many more)", () -> {
            RopeRooms r = Check.town("l20,b99");
            r.minutes(3);
            e.due("rest", r.rest(), 17);
            e.due("count(3)", r.count(3), 20);
            e.due("rest again", r.rest(), 0);
            e.due("count(3) again", r.count(3), 20);
        });
        e.refused(12, "NONE: no TOWN", Edges::ruled, -1, List.of(r -> r.rest()));
    }
}
