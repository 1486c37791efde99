/** Promises 6 to 12: ROPES, rooms, BRAKES, WATER, screws, MINUTES and REST. */
public final class RopeTest {
    private static final Check CHECK = new Check("RopeTest");

    public static void main(String[] args) {
        whatIsTold();
        heightsAndBears();
        pulls();
        brakesAndWater();
        screws();
        goingMinutes();
        slipping();
        resting();
        CHECK.finish();
    }

    /** Promise 6 and 7: what was told, what is the default, and what is not there. */
    private static void whatIsTold() {
        RopeRooms r = Check.town("a1;k1,l12,x6,a7,b8,h9,s10,r3,u1;k2,l3,x2");
        int[][] due = {
            {0, 10, 0, 5, 0, -1, 1, 0, 0, 0}, {1, 12, 6, 9, 10, 1, 1, 0, 6, 3}, {2, 3, 2, 5, 0, -1, 1, 0, 0, 0}
        };
        due[0][8] = 1 - (10 + 7 + 8);
        for (int p = 0; p < 3; p++) {
            for (int what = 0; what <= 9; what++) {
                CHECK.due("rope(" + p + ", " + what + ")", r.rope(p, what), due[p][what]);
            }
        }
        CHECK.dueNoRope(r, 3, 0);
        CHECK.dueNoRope(r, -1, 0);
        CHECK.dueNoRope(r, 0, 10);
        CHECK.dueNoRope(r, 0, -1);
        CHECK.dueNoRope(r, Integer.MAX_VALUE, Integer.MIN_VALUE);
        int[] weights = {1, 10, 7, 8, 10, 10};
        for (int room = 0; room < 6; room++) {
            CHECK.due("room(" + room + ", 1)", r.room(room, 1), weights[room]);
            CHECK.due("room(" + room + ", 3)", r.room(room, 3), 0);
        }
        CHECK.due("room(6, 0)", r.room(6, 0), -1000000);
        CHECK.due("room(-1, 0)", r.room(-1, 0), -1000000);
        CHECK.due("room(0, 4)", r.room(0, 4), -1000000);
        CHECK.due("room(0, -1)", r.room(0, -1), -1000000);
    }

    private static void heightsAndBears() {
        RopeRooms r = Check.town("l10,x3;k1,l12,x4,u1;k2,l9,x2,u3;l5,x5,u3");
        int[] heights = {3, 7, 11, 11, 13, 18, 16, 11};
        for (int room = 0; room < 8; room++) {
            CHECK.due("height of " + room, r.room(room, 0), heights[room]);
        }
        int[] bears = {10, 70, 10, 50, 10, 10, 10, 10};
        for (int room = 0; room < 8; room++) {
            CHECK.due("bears of " + room, r.room(room, 2), bears[room]);
        }
        r.water(5, 4);
        r.person(3, 3);
        r.person(9, 0);
        int[] more = {19, 77, 10, 57, 10, 14, 10, 10};
        for (int room = 0; room < 8; room++) {
            CHECK.due("bears then of " + room, r.room(room, 2), more[room]);
        }
        r.gallery(5);
        r.person(9, 12);
        CHECK.due("a gallery weighs on none", r.room(0, 2), 19);
    }

    private static void pulls() {
        RopeRooms r = Check.town("l10,x3,a20,b8,r2;k1,l10,x2,a9,b20,r9;k2,a99,b1,r9;l10,x9,r3");
        CHECK.due("plain and heavy", r.rope(0, 8), 20 - 8 + 2 * (10 - 6));
        CHECK.due("geared, no heavy rope", r.rope(1, 8), 18 - 20);
        CHECK.due("a screw", r.rope(2, 8), 0);
        CHECK.due("heavy, its other end longer", r.rope(3, 8), 3 * (10 - 18));
        CHECK.due("hold", r.rope(0, 3), 5);
        r.minutes(1);
        CHECK.due("heavier the more it goes", r.rope(0, 8), 20 - 8 + 2 * (10 - 4));
        CHECK.due("heavier the other way", r.rope(3, 8), 3 * (10 - 20));
    }

    /** Promises 8 and 9. */
    private static void brakesAndWater() {
        RopeRooms r = Check.town("l4,x2,b11;l4");
        CHECK.due("brake(2)", r.brake(2, false), false);
        CHECK.due("brake(-1)", r.brake(-1, false), false);
        CHECK.due("held", r.minutes(1), 0);
        CHECK.due("brake(0, false)", r.brake(0, false), true);
        CHECK.due("brake off", r.rope(0, 6), 0);
        CHECK.due("other brake on", r.rope(1, 6), 1);
        CHECK.due("free", r.minutes(1), 1);
        CHECK.due("up", r.rope(0, 2), 3);
        CHECK.due("brake(0, true)", r.brake(0, true), true);
        CHECK.due("held again", r.minutes(1), 0);
        CHECK.due("water(0, 99)", r.water(0, 99), true);
        CHECK.due("room(0, 3)", r.room(0, 3), 99);
        CHECK.due("room(0, 2)", r.room(0, 2), 109);
        CHECK.due("room(0, 1)", r.room(0, 1), 10);
        CHECK.due("water(0, 100)", r.water(0, 100), false);
        CHECK.due("water(0, -1)", r.water(0, -1), false);
        CHECK.due("water(4, 1)", r.water(4, 1), false);
        CHECK.due("water(-1, 1)", r.water(-1, 1), false);
        CHECK.due("water as it was", r.room(0, 3), 99);
        CHECK.due("above its hold", r.minutes(1), 1);
        CHECK.due("water(0, 0)", r.water(0, 0), true);
        CHECK.due("room(0, 3) then", r.room(0, 3), 0);
    }

    /** Promise 10. */
    private static void screws() {
        RopeRooms r = Check.town("k2,l8,x3,a99,b1,h0;l8,x3");
        CHECK.due("turn(0, 0)", r.turn(0, 0), 3);
        CHECK.due("turn(0, 2)", r.turn(0, 2), 5);
        CHECK.due("its second room", r.room(1, 0), 3);
        CHECK.due("turn(0, 20)", r.turn(0, 20), 8);
        CHECK.due("turn(0, -20)", r.turn(0, -20), 0);
        CHECK.due("turn(0, 21)", r.turn(0, 21), -1);
        CHECK.due("turn(0, -21)", r.turn(0, -21), -1);
        CHECK.due("turn(0, max)", r.turn(0, Integer.MAX_VALUE), -1);
        CHECK.due("turn of no screw", r.turn(1, 1), -1);
        CHECK.due("turn of no rope", r.turn(2, 1), -1);
        CHECK.due("turn(-1, 1)", r.turn(-1, 1), -1);
        CHECK.due("its x", r.rope(0, 2), 0);
        CHECK.due("no steps of it", r.rope(0, 7), 0);
        r.brake(0, false);
        CHECK.due("a screw never goes", r.minutes(5), 0);
    }

    /** Promise 11. */
    private static void goingMinutes() {
        RopeRooms r = Check.town("l4,x2,a16,h5;k1,l8,x2,a10,b26,h5;l3,x1,a15");
        CHECK.due("minutes(0)", r.minutes(0), -1);
        CHECK.due("minutes(61)", r.minutes(61), -1);
        CHECK.due("minutes(-1)", r.minutes(-1), -1);
        CHECK.due("count(3)", r.count(3), 0);
        CHECK.due("minutes(1)", r.minutes(1), 2);
        CHECK.due("first room down", r.rope(0, 2), 1);
        CHECK.due("geared two up", r.rope(1, 2), 4);
        CHECK.due("its second room", r.room(3, 0), 2);
        CHECK.due("held: as much as it holds", r.rope(2, 2), 1);
        CHECK.due("minutes(60)", r.minutes(60), 3);
        CHECK.due("down to the ground", r.rope(0, 2), 0);
        CHECK.due("up to the end", r.rope(1, 2), 8);
        CHECK.due("travel", r.rope(0, 7), 2);
        CHECK.due("travel of the geared one", r.rope(1, 7), 3);
        CHECK.due("count(3) then", r.count(3), 61);
        // A rope that hangs on a room goes with it and weighs on it.
        RopeRooms h = Check.town("l6,x3,a1,b10,h0;l4,x1,u0");
        CHECK.due("pull with what hangs there", h.rope(0, 8), 21 - 10);
        h.minutes(2);
        CHECK.due("down with it", h.room(2, 0), 2);
        CHECK.due("and its other room", h.room(3, 0), 4);
    }

    /** MINUTES with draws: x becomes x * 6364136223846793005 + 1442695040888963407, a draw (x >>> 33) % 100. */
    private static void slipping() {
        long seed = 12345;
        long x = seed;
        int up = 0;
        RopeRooms r = Check.town("l20,b11,s30;l20,b10,s40;l20,b12,s60,h1;l20,k2,s7;l20,b12,s100,h9", seed);
        int third = 0;
        for (int m = 0; m < 15; m++) {
            for (int p = 0; p < 5; p++) {
                x = x * 6364136223846793005L + 1442695040888963407L;
                if (p == 0 && (x >>> 33) % 100 < 30) {
                    up++;
                }
            }
            third++;
            r.minutes(1);
            CHECK.due("x of a slipping rope, minute " + m, r.rope(0, 2), up);
            CHECK.due("no pull, no slip", r.rope(1, 2), 0);
            CHECK.due("above its hold it goes anyhow", r.rope(2, 2), third);
            CHECK.due("a screw draws but stays", r.rope(3, 2), 0);
            CHECK.due("slips always", r.rope(4, 2), third);
        }
        CHECK.due("some slips, not all", up > 0 && up < 15, true);
        // Without a brake on, or without SLIP, there are no draws.
        RopeRooms s = Check.town("l20,b11,s30;l20,b11,s50", seed);
        s.brake(0, false);
        x = seed;
        up = 0;
        for (int m = 0; m < 12; m++) {
            x = x * 6364136223846793005L + 1442695040888963407L;
            up += (x >>> 33) % 100 < 50 ? 1 : 0;
            s.minutes(1);
            CHECK.due("the second draws alone, minute " + m, s.rope(1, 2), up);
        }
        CHECK.due("the first was free", s.rope(0, 2), 12);
        x = seed;
        up = 0;
        RopeRooms t = Check.town("l20,b11;l20,b11,s50", seed);
        for (int m = 0; m < 12; m++) {
            x = x * 6364136223846793005L + 1442695040888963407L;
            up += (x >>> 33) % 100 < 50 ? 1 : 0;
            t.minutes(1);
            CHECK.due("no draws for s0, minute " + m, t.rope(1, 2), up);
        }
        x = 0;
        up = 0;
        RopeRooms one = Check.town("l20,b11,s1");
        for (int m = 0; m < 10; m++) {
            for (int i = 0; i < 60; i++) {
                x = x * 6364136223846793005L + 1442695040888963407L;
                up += (x >>> 33) % 100 < 1 ? 1 : 0;
            }
            one.minutes(60);
            CHECK.due("s1 slips now and then", one.rope(0, 2), Math.min(20, up));
        }
        CHECK.due("it did", up > 0, true);
        RopeRooms never = Check.town("l20,b11,s0", seed);
        CHECK.due("s0 never slips", never.minutes(60), 0);
    }

    /** Promise 12. */
    private static void resting() {
        RopeRooms r = Check.town("l9,x4,b16,h5,s100;k1,l12,x10,a11,b16,h5;l4,b11,s100", 3);
        CHECK.due("rest", r.rest(), 5);
        CHECK.due("up to its end", r.rope(0, 2), 9);
        CHECK.due("geared down", r.rope(1, 2), 0);
        CHECK.due("no slip at rest", r.rope(2, 2), 0);
        CHECK.due("travel", r.rope(0, 7), 5);
        CHECK.due("travel of the geared one", r.rope(1, 7), 5);
        CHECK.due("minutes", r.count(3), 5);
        CHECK.due("rest again", r.rest(), 0);
        CHECK.due("minutes stay", r.count(3), 5);
        // No draws were taken by it: the next one is the first of the seed.
        long x = 3 * 6364136223846793005L + 1442695040888963407L;
        RopeRooms d = Check.town("l9,b16,h5,s50;l9,b11,s" + ((x >>> 33) % 100 + 1), 3);
        d.rest();
        d.brake(0, false);
        d.minutes(1);
        CHECK.due("first draw slips", d.rope(1, 2), 1);
        // A heavy rope tips over: held in the middle, it runs from where it is not.
        RopeRooms h = Check.town("l10,x5,r3;l10,x4,r3;l10,x7,r3");
        CHECK.due("heavy rest", h.rest(), 4);
        CHECK.due("balanced", h.rope(0, 2), 5);
        CHECK.due("down", h.rope(1, 2), 0);
        CHECK.due("up", h.rope(2, 2), 10);
    }
}
