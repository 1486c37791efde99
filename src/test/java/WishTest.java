/** Promises 21 to 29: WANTED heights, PAILS, TOGETHER, TASKS and ORDERS, SLIPPED, RENT, EVEN. */
public final class WishTest {
    private static final Check CHECK = new Check("WishTest");

    public static void main(String[] args) {
        wanting();
        pails();
        pailsAtTheEdges();
        together();
        tasks();
        orders();
        slipped();
        rents();
        even();
        CHECK.finish();
    }

    /** Promises 21 and 26: the bounds of heights told. */
    private static void wanting() {
        RopeRooms r = Check.town("l4,x1");
        int[] heights = {-2, -1, 0, 200, 201, Integer.MAX_VALUE, Integer.MIN_VALUE};
        boolean[] due = {false, true, true, true, false, false, false};
        for (int i = 0; i < heights.length; i++) {
            CHECK.due("want(0, " + heights[i] + ")", r.want(0, heights[i]), due[i]);
            CHECK.due("woke(0, " + heights[i] + ")", r.woke(0, heights[i]), due[i]);
        }
        CHECK.due("want(2, 1)", r.want(2, 1), false);
        CHECK.due("want(-1, 1)", r.want(-1, 1), false);
        CHECK.due("woke(2, 1)", r.woke(2, 1), false);
        CHECK.due("woke(-1, 1)", r.woke(-1, 1), false);
        CHECK.due("200 stays wanted", r.together(0), 0);
        CHECK.due("none wanted", r.want(0, -1), true);
        CHECK.due("together then", r.together(0), 1);
        CHECK.due("200 stays seen", r.slipped(1), 0);
        CHECK.due("none seen", r.woke(0, -1), true);
        CHECK.due("slipped then", r.slipped(1), 1);
    }

    private static void due(RopeRooms r, String what, int n, int... given) {
        CHECK.due(what + ": pails(NONE)", r.pails(-1), n);
        for (int room = 0; room < given.length; room++) {
            CHECK.due(what + ": pails(" + room + ")", r.pails(room), given[room]);
        }
    }

    /** Promise 22. */
    private static void pails() {
        RopeRooms r = Check.town("l6,x2,a10,b10,h2;l6,x2,a10,b10,h2");
        due(r, "none wanted", 0, 0, 0, 0, 0);
        r.want(0, 2);
        due(r, "it is so", 0, 0, 0, 0, 0);
        r.want(0, 0);
        due(r, "three in", 3, 3, 0, 0, 0);
        r.water(1, 2);
        due(r, "five would do", -1000000);
        r.water(1, 1);
        due(r, "four in rather than three in and one out", 4, 4, 0, 0, 0);
        r.water(1, 0);
        r.want(2, 6);
        due(r, "three and three are too many", -1000000);
        r.want(0, 2);
        due(r, "into the second of the other", 3, 0, 0, 0, 3);
        CHECK.due("pails(4)", r.pails(4), -1000000);
        CHECK.due("pails(-2)", r.pails(-2), -1000000);
        CHECK.due("water as it was", r.room(3, 3), 0);
        CHECK.due("x as it was", r.rope(1, 2), 2);
        // A geared rope feels its first room twice.
        RopeRooms g = Check.town("k1,l6,x2,a10,b20,h2");
        g.want(1, 3);
        due(g, "geared", 2, 2, 0);
        g.want(1, 0);
        due(g, "geared, the other way", 3, 0, 3);
        g.water(0, 1);
        g.water(1, 2);
        due(g, "one out of the first, which counts twice, and one into the second", 2, -1, 1);
    }

    private static void pailsAtTheEdges() {
        // WATER stays within 0 .. 99.
        RopeRooms r = Check.town("l6,x2,h2");
        r.water(0, 98);
        r.water(1, 98);
        r.want(0, 0);
        due(r, "one in, two out", 3, 1, -2);
        r.water(0, 99);
        r.water(1, 99);
        due(r, "three out", 3, 0, -3);
        // Of several the one with the greater number at the first room: all in the first.
        RopeRooms s = Check.town("l6,x2,h0");
        s.water(0, 5);
        s.water(1, 6);
        s.want(0, 0);
        due(s, "two in the first", 2, 2, 0);
        s.want(0, 2);
        due(s, "balance by one in the first", 1, 1, 0);
        s.brake(0, false);
        s.want(0, 6);
        due(s, "it goes there", 0, 0, 0);
        // A room that hangs on another weighs there too: one pail for both.
        RopeRooms u = Check.town("l6,x2,a10,b30,h0;l4,x2,a10,b10,h0,u0");
        u.want(0, 0);
        u.want(2, 0);
        due(u, "one pail serves both ropes", 1, 0, 0, 1, 0);
        u.want(2, 4);
        due(u, "the other room of it", 1, 0, 0, 0, 1);
        u.want(2, -1);
        due(u, "the first room that does it", 1, 1, 0, 0, 0);
        // Heights of what hangs go by the room that carries it, room 0 too.
        RopeRooms v = Check.town("l6,x2,a10,b30,h1;l4,x2,h1,u0;l9,x1,h2");
        v.want(2, 2);
        due(v, "two in 0: down with it", 2, 2, 0, 0, 0, 0, 0);
        v.want(2, 6 + 4);
        due(v, "up to the end of both: more in 3 weighs on 0", -1000000);
        v.want(2, 6 + 2);
        due(v, "two more in 1", 2, 0, 2, 0, 0, 0, 0);
        v.want(3, 6 + 2);
        v.want(4, 1);
        due(v, "and others stay", 2, 0, 2, 0, 0, 0, 0);
        v.want(4, 0);
        due(v, "and three into another", -1000000);
        v.water(5, 1);
        v.want(2, 2 + 2);
        v.want(3, 2 + 2);
        due(v, "those stay", 4, 0, 0, 0, 0, 4, 0);
        // Screws are not moved by water.
        RopeRooms k = Check.town("k2,l6,x2,h0");
        k.want(0, 3);
        due(k, "a screw", -1000000);
        k.want(0, 2);
        due(k, "a screw as it is", 0, 0, 0);
        // PERSONS weigh as well, and SLIP does not count.
        RopeRooms p = Check.town("l6,x2,h3,s100");
        p.person(2, 1);
        p.want(0, 6);
        due(p, "two and two above hold", 2, 0, 2);
    }

    /** Promise 23. */
    private static void together() {
        RopeRooms r = Check.town("l6;k1,l8;k2,l5,u3;l4,u1");
        CHECK.due("together(2)", r.together(2), -1);
        CHECK.due("together(-1)", r.together(-1), -1);
        CHECK.due("none wanted", r.together(0), 1);
        CHECK.due("nobody out", r.together(1), 0);
        r.want(0, 2);
        r.want(1, 4);
        CHECK.due("both of one rope", r.together(0), 1);
        r.want(1, 5);
        CHECK.due("not 2 and 5 of 6", r.together(0), 0);
        CHECK.due("the lower out", r.together(1), 1);
        r.want(6, 8);
        CHECK.due("a rope on 1 up to 9", r.together(1), 1);
        r.want(7, 6);
        CHECK.due("5 and its 4 less 3 make 6", r.together(1), 1);
        r.want(7, 7);
        CHECK.due("8 and 7 on a foot of 5.5: never; 0 and the lower of both", r.together(1), 1 + 64);
        r.want(1, -1);
        CHECK.due("the lower of both", r.together(1), 64);
        r.want(0, -1);
        CHECK.due("still the lower of both", r.together(1), 64);
        r.want(6, -1);
        r.want(7, -1);
        // The geared one is even: X 0 2 4 6 8, its second room 4 3 2 1 0.
        r.want(2, 3);
        CHECK.due("geared, odd", r.together(1), 4);
        r.want(2, 4);
        r.want(3, 2);
        CHECK.due("geared, both", r.together(0), 1);
        r.want(3, 3);
        CHECK.due("geared, not both", r.together(1), 4);
        r.want(5, 2);
        CHECK.due("a screw on 3 can be at 2 only if that is: 3 out alone", r.together(1), 8);
        r.want(4, 6);
        CHECK.due("6 and 2 on a foot of 1.5: never; 2 and 5, or 3 and 4", r.together(1), 4 + 32);
        CHECK.due("together(0)", r.together(0), 0);
        r.want(2, 200);
        r.want(3, 200);
        CHECK.due("out of reach", r.together(1), 4 + 8 + 16);
        CHECK.due("x as it was", r.rope(0, 2), 0);
    }

    /** Promise 24. */
    private static void tasks() {
        RopeRooms r = Check.town("l4,x2");
        r.gallery(2);
        r.person(1, 0);
        CHECK.due("nobody", r.task(1, 0), -1);
        CHECK.due("task(-1, 0)", r.task(-1, 0), -1);
        CHECK.due("no such place", r.task(0, 2), -1);
        CHECK.due("no such gallery", r.task(0, 13), -1);
        CHECK.due("count(6)", r.count(6), 0);
        for (int i = 1; i <= 6; i++) {
            CHECK.due("task " + i, r.task(0, i % 2 == 0 ? 0 : 1), i);
        }
        CHECK.due("a seventh", r.task(0, 1), -1);
        CHECK.due("count(6) then", r.count(6), 6);
    }

    /** Promise 25. */
    private static void orders() {
        RopeRooms r = Check.town("l4,x2;l4,x2");
        r.beside(0, 1, true);
        r.beside(0, 2, true);
        r.beside(2, 3, true);
        r.person(1, 0);
        CHECK.due("no tasks", r.orders(0), -1);
        CHECK.due("no tasks", r.orders(1), -1);
        r.task(0, 3);
        CHECK.due("not beside", r.orders(0), 0);
        CHECK.due("no first", r.orders(1), -1);
        r.task(0, 2);
        CHECK.due("2, then 3", r.orders(0), 1);
        CHECK.due("as digits", r.orders(1), 10);
        CHECK.due("orders(2)", r.orders(2), -1);
        CHECK.due("orders(-1)", r.orders(-1), -1);
        CHECK.due("where it was", r.where(0), 0);
        r.person(1, 0);
        r.task(1, 1);
        CHECK.due("the other one at any time", r.orders(0), 3);
        CHECK.due("the first of them", r.orders(1), 102);
        // Two persons of 3 each in a room are carried off: one may go, the other can't then.
        RopeRooms c = Check.town("l4,x2,h3");
        c.gallery(2);
        c.beside(0, 12, true);
        c.beside(1, 12, true);
        c.person(3, 12);
        c.person(3, 12);
        c.person(3, 12);
        c.task(0, 0);
        c.task(1, 0);
        c.task(2, 1);
        CHECK.due("one into each room at first, but for 0 and 1 together", c.orders(0), 4);
        CHECK.due("0, 2, 1", c.orders(1), 21);
        CHECK.due("where they were", c.where(2), 12);
        // The TOWN comes to REST ahead of the first TASK too, without SLIP.
        RopeRooms w = Check.town("l4,x2,b20,s100");
        w.gallery(4);
        w.beside(0, 12, true);
        w.person(1, 12);
        w.task(0, 0);
        CHECK.due("room 0 goes up to it", w.orders(0), 1);
        CHECK.due("task 0", w.orders(1), 0);
        CHECK.due("it has not", w.rope(0, 2), 2);
        // All orders of six.
        RopeRooms six = Check.town("l4,x2,h99");
        six.beside(0, 1, true);
        for (int i = 0; i < 6; i++) {
            six.person(1, i % 2);
            six.task(i, 1 - i % 2);
        }
        CHECK.due("720 orders", six.orders(0), 720);
        CHECK.due("the first of all", six.orders(1), 12345);
    }

    /** Promise 27. */
    private static void slipped() {
        RopeRooms r = Check.town("l8,x2,b12,h5;l8,x2,b14,h5,s100;l8,x2,b16,h5;k2,l8,x2");
        CHECK.due("slipped(0)", r.slipped(0), -1);
        CHECK.due("slipped(61)", r.slipped(61), -1);
        CHECK.due("nothing seen", r.slipped(3), 15);
        r.woke(4, 5);
        CHECK.due("the third goes anyhow", r.slipped(3), 15);
        r.woke(0, 5);
        CHECK.due("the first slipped", r.slipped(3), 1);
        r.woke(2, 5);
        CHECK.due("two did not", r.slipped(3), 0);
        r.woke(0, 2);
        CHECK.due("the second slipped", r.slipped(3), 2);
        CHECK.due("not in 4", r.slipped(4), 0);
        r.woke(2, 2);
        CHECK.due("a screw may be off, or the third", r.slipped(3), 12);
        r.brake(0, false);
        CHECK.due("the first is off", r.slipped(3), 0);
        r.woke(0, 5);
        CHECK.due("and goes with any", r.slipped(3), 13);
        CHECK.due("brakes as they were", r.rope(1, 6), 1);
        CHECK.due("x as it was", r.rope(2, 2), 2);
        r.woke(0, -1);
        r.woke(2, -1);
        r.woke(4, 8);
        CHECK.due("60 minutes", r.slipped(60), 15);
    }

    /** Promise 28. */
    private static void rents() {
        RopeRooms r = Check.town("l8,x3;k1,l8,x2,u1");
        CHECK.due("rent(0, 2)", r.rent(0, 2), 6);
        CHECK.due("rent(3, 99)", r.rent(3, 99), 99 * 8);
        CHECK.due("rent(0, 0)", r.rent(0, 0), 0);
        CHECK.due("rent of all", r.rent(-1, 3), 3 * (3 + 5 + 7 + 8));
        CHECK.due("rent(0, 100)", r.rent(0, 100), -1);
        CHECK.due("rent(0, -1)", r.rent(0, -1), -1);
        CHECK.due("rent of all, out of bounds", r.rent(-1, 100), -1);
        CHECK.due("rent(4, 1)", r.rent(4, 1), -1);
        CHECK.due("rent(-2, 1)", r.rent(-2, 1), -1);
    }

    /** Promise 29. */
    private static void even() {
        RopeRooms r = Check.town("l8,x3;l4,x3;l9,x5");
        CHECK.due("heights 3 5 3 1 5 4: two at 3 and at 5", r.even(0), 3);
        CHECK.due("how many", r.even(1), 2);
        CHECK.due("even(2)", r.even(2), -1);
        CHECK.due("even(-1)", r.even(-1), -1);
        RopeRooms s = Check.town("l9,x5;l9,x4;l8,x8");
        CHECK.due("heights 5 4 4 5 8 0", s.even(0), 4);
        RopeRooms t = Check.town("l9,x9");
        CHECK.due("heights 9 0", t.even(0), 0);
        CHECK.due("one", t.even(1), 1);
        CHECK.due("heights 0 9", Check.town("l9,x0").even(0), 0);
        RopeRooms u = Check.town("l6,x6;l2,x1,u0");
        CHECK.due("heights 6 0 7 7", u.even(0), 7);
        CHECK.due("two", u.even(1), 2);
    }
}
