/** Promises 33 to 43: FEAST, GROUPS, OFTEN, CUT, LOAD, STRAIN, ABOVE, SWAY, IMAGE, BACK and counts. */
public final class ShapeTest {
    private static final Check CHECK = new Check("ShapeTest");

    public static void main(String[] args) {
        feasts();
        groups();
        often();
        cuts();
        loads();
        strains();
        above();
        sway();
        images();
        imageAndPersons();
        counts();
        CHECK.finish();
    }

    /** Promise 33. */
    private static void feasts() {
        RopeRooms r = Check.town("l6;k1,l12;k2,l5,u3;l5,u0");
        CHECK.due("feast(0)", r.feast(0), -1);
        CHECK.due("feast(256)", r.feast(256), -1);
        CHECK.due("feast(257)", r.feast(257), -1);
        CHECK.due("feast(-1)", r.feast(-1), -1);
        CHECK.due("feast(min)", r.feast(Integer.MIN_VALUE), -1);
        CHECK.due("one alone", r.feast(1), 0);
        CHECK.due("both of a plain one", r.feast(3), 3);
        CHECK.due("geared: x = (12 less x) / 2 at 4", r.feast(12), 4);
        CHECK.due("of two ropes", r.feast(1 | 4), 0);
        CHECK.due("3 and 4 not by both pairs", r.feast(15), -1);
        CHECK.due("both of a screw with an odd length", r.feast(48), -1);
        CHECK.due("a screw and its foot", r.feast(8 | 16), 0);
        CHECK.due("a screw's second and the geared first, on (12 less x) / 2", r.feast(4 | 32), 4);
        CHECK.due("0, 1 and the first of what hangs on 0", r.feast(1 | 2 | 64), 3);
        CHECK.due("1 and the first of what hangs on 0", r.feast(2 | 64), 3);
        CHECK.due("both of odd length on 0", r.feast(192), -1);
        r.want(0, 6);
        CHECK.due("nothing else wanted", r.feast(1), 0);
        RopeRooms g = Check.town("k1,l10");
        CHECK.due("geared: x = (10 less x) / 2 is odd nowhere", g.feast(3), -1);
        RopeRooms h = Check.town("l20;l20,u0;l20,u2;l20,u4;l20,u6;l20,u8");
        CHECK.due("both of the lowest", h.feast(3 << 10), 10);
        CHECK.due("the highest room with room 1", h.feast(2 | 1 << 10), 10);
        CHECK.due("all first rooms", h.feast(0x555), 0);
        CHECK.due("all rooms: 20 20, then 20 higher", h.feast(0xFFF), -1);
        CHECK.due("1 and 3: 20 less X, X and 20 less Y", h.feast(2 | 8), 10);
        CHECK.due("1, 3, 5: each X twice the one ahead of it", h.feast(2 | 8 | 32), 15);
        CHECK.due("1, 3, 5, 7, 9, 11: only with X 0", h.feast(0xAAA), 20);
    }

    /** Promise 34. */
    private static void groups() {
        RopeRooms r = Check.town("l4,x2;l4,x2;l6,x5");
        r.gallery(2);
        r.gallery(5);
        r.gallery(9);
        CHECK.due("each alone", r.group(-1), 9);
        r.beside(0, 1, true);
        r.beside(1, 12, true);
        r.beside(12, 3, true);
        r.beside(4, 13, true);
        r.beside(4, 14, true);
        r.beside(5, 0, true);
        CHECK.due("groups", r.group(-1), 5);
        CHECK.due("group(0)", r.group(0), 1 | 2 | 8 | 1 << 12);
        CHECK.due("group(12)", r.group(12), 1 | 2 | 8 | 1 << 12);
        CHECK.due("group(2)", r.group(2), 4);
        CHECK.due("group(13)", r.group(13), 16 | 1 << 13);
        CHECK.due("group(14)", r.group(14), 1 << 14);
        CHECK.due("group(6)", r.group(6), -1);
        CHECK.due("group(15)", r.group(15), -1);
        CHECK.due("group(-2)", r.group(-2), -1);
        CHECK.due("group(18)", r.group(18), -1);
        r.beside(1, 12, false);
        CHECK.due("one more", r.group(-1), 6);
    }

    /** Promise 35. */
    private static void often() {
        RopeRooms r = Check.town("l8,x0,b16,h5,s100;l4,x4");
        r.gallery(8);
        r.gallery(6);
        r.gallery(0);
        for (int place = 1; place < 15; place++) {
            r.beside(0, place, true);
        }
        CHECK.due("room 2 once, at 4", r.often(0, 2, 60, 0), 1);
        CHECK.due("the first", r.often(0, 2, 60, 1), 4);
        CHECK.due("the last", r.often(0, 2, 60, 2), 4);
        CHECK.due("not to 3", r.often(0, 2, 3, 0), 0);
        CHECK.due("no first", r.often(0, 2, 3, 1), -1);
        CHECK.due("no last", r.often(0, 2, 3, 2), -1);
        CHECK.due("the highest from 8 on", r.often(12, 0, 60, 0), 53);
        CHECK.due("its first", r.often(12, 0, 60, 1), 8);
        CHECK.due("its last", r.often(12, 0, 60, 2), 60);
        CHECK.due("to 0", r.often(0, 14, 0, 0), 1);
        CHECK.due("to 0, the last", r.often(0, 14, 0, 2), 0);
        CHECK.due("not beside", r.often(2, 3, 9, 0), 0);
        CHECK.due("often(0, 0)", r.often(0, 0, 1, 0), -1000000);
        CHECK.due("often(0, 4)", r.often(0, 4, 1, 0), -1000000);
        CHECK.due("often(15, 0)", r.often(15, 0, 1, 0), -1000000);
        CHECK.due("n -1", r.often(0, 1, -1, 0), -1000000);
        CHECK.due("n 61", r.often(0, 1, 61, 0), -1000000);
        CHECK.due("what 3", r.often(0, 1, 1, 3), -1000000);
        CHECK.due("what -1", r.often(0, 1, 1, -1), -1000000);
        CHECK.due("nothing went", r.rope(0, 2), 0);
    }

    /** Promise 36. */
    private static void cuts() {
        RopeRooms r = Check.town("l4,x1;l4,x2,u1;l4,x3,u2;l4,x4;l4,u6;l4,u5");
        CHECK.due("cut(0, 0)", r.cut(0, 0), 0xC3F);
        CHECK.due("cut(1, 0)", r.cut(1, 0), 0xC3C);
        CHECK.due("cut(2, 0)", r.cut(2, 0), 0xC30);
        CHECK.due("cut(3, 0)", r.cut(3, 0), 0x3C0);
        CHECK.due("cut(4, 0)", r.cut(4, 0), 0x300);
        CHECK.due("cut(5, 0)", r.cut(5, 0), 0xC00);
        CHECK.due("heights 4 0 4 8", r.cut(3, 1), 16);
        CHECK.due("heights 8 6 6 10", r.cut(2, 1), 30);
        CHECK.due("cut(6, 0)", r.cut(6, 0), -1);
        CHECK.due("cut(-1, 0)", r.cut(-1, 0), -1);
        CHECK.due("cut(0, 2)", r.cut(0, 2), -1);
        CHECK.due("cut(0, -1)", r.cut(0, -1), -1);
        CHECK.due("nothing fell", r.count(0), 6);
    }

    /** Promise 37. */
    private static void loads() {
        RopeRooms r = Check.town("l4,x2,h5;l4,x0,h3;k1,l4,x2,b20,h5");
        CHECK.due("as much as is held", r.load(0), 5);
        CHECK.due("the other room", r.load(1), 5);
        CHECK.due("on the ground it can't go", r.load(2), 99);
        CHECK.due("its other room", r.load(3), 3);
        CHECK.due("geared: half", r.load(4), 2);
        CHECK.due("geared: its second", r.load(5), 5);
        CHECK.due("load(6)", r.load(6), -1);
        CHECK.due("load(-1)", r.load(-1), -1);
        r.water(1, 20);
        CHECK.due("against 20", r.load(0), 25);
        CHECK.due("something goes whatever another is", r.load(2), -1);
        CHECK.due("water as it was", r.room(0, 3), 0);
        CHECK.due("water of the other as it was", r.room(1, 3), 20);
        r.water(1, 0);
        r.brake(0, false);
        CHECK.due("without a brake just in balance", r.load(0), 0);
        r.water(1, 7);
        CHECK.due("and against 7", r.load(0), 7);
        RopeRooms s = Check.town("l4,x2,h0,s100;l4,x2,h9,u0");
        CHECK.due("what hangs there weighs", s.load(1), 20);
        CHECK.due("slip does not count", s.load(0), -1);
    }

    /** Promise 38. */
    private static void strains() {
        RopeRooms r = Check.town("l4,a20,b1;l10,a20,b1,r2;k1,l4,u0;l7,a20,b1,r9,u4");
        CHECK.due("with what hangs there", r.strain(0), 21 + 20 + 21);
        CHECK.due("a heavy one", r.strain(1), 21 + 20);
        CHECK.due("its own and what hangs there", r.strain(2), 20 + 21);
        CHECK.due("heavy and hanging", r.strain(3), 21 + 63);
        CHECK.due("the most", r.strain(-1), 3);
        CHECK.due("strain(4)", r.strain(4), -1);
        CHECK.due("strain(-2)", r.strain(-2), -1);
        r.water(1, 22);
        CHECK.due("as much", r.strain(0), 84);
        CHECK.due("of several the lowest", r.strain(-1), 0);
        r.person(9, 7);
        CHECK.due("a person there", r.strain(3), 93);
        CHECK.due("and what it hangs on", r.strain(0), 93);
        CHECK.due("of two the second", Check.town("l4;l4,a11;l4").strain(-1), 1);
        CHECK.due("of two the first", Check.town("l4,a12;l4,a11").strain(-1), 0);
        RopeRooms s = Check.town("k2,l4,r2;k1,l6,r3");
        CHECK.due("a heavy screw", s.strain(0), 28);
        CHECK.due("a heavy geared one", s.strain(1), 38);
    }

    /** Promise 39. */
    private static void above() {
        RopeRooms r = Check.town("l6,x2;l6,x3;l8,x8,u1");
        CHECK.due("heights 2 4 3 3 12 4: above(0)", r.above(0), 2 | 4 | 8 | 16 | 32);
        CHECK.due("above(1)", r.above(1), 16);
        CHECK.due("above(2)", r.above(2), 2 | 16 | 32);
        CHECK.due("above(4)", r.above(4), 0);
        CHECK.due("room 0 above the other", Check.town("l6,x4").above(1), 1);
        CHECK.due("above(6)", r.above(6), -1);
        CHECK.due("above(-1)", r.above(-1), -1);
    }

    /** Promise 40: against draws that are worked here. */
    private static void sway() {
        RopeRooms r = Check.town("l20,x0,b11,s5;l20,x3,b11,s9;l20,b16,s50", 77);
        for (int n = 1; n <= 4; n++) {
            for (int k = 1; k <= 20; k += 19) {
                int[] elsewhere = new int[2];
                for (int seed = 0; seed < k; seed++) {
                    long x = seed;
                    boolean[] slips = new boolean[2];
                    for (int i = 0; i < 3 * n; i++) {
                        x = x * 6364136223846793005L + 1442695040888963407L;
                        if (i % 3 != 2 && (x >>> 33) % 100 < (i % 3 == 0 ? 5 : 9)) {
                            slips[i % 3] = true;
                        }
                    }
                    elsewhere[0] += slips[0] ? 1 : 0;
                    elsewhere[1] += slips[1] ? 1 : 0;
                }
                CHECK.due("sway(0, " + n + ", " + k + ")", r.sway(0, n, k), elsewhere[0]);
                CHECK.due("sway(1, " + n + ", " + k + ")", r.sway(1, n, k), elsewhere[1]);
                CHECK.due("goes anyhow", r.sway(2, n, k), 0);
            }
        }
        CHECK.due("sway(3, 1, 1)", r.sway(3, 1, 1), -1);
        CHECK.due("sway(-1, 1, 1)", r.sway(-1, 1, 1), -1);
        CHECK.due("sway(0, 0, 1)", r.sway(0, 0, 1), -1);
        CHECK.due("sway(0, 61, 1)", r.sway(0, 61, 1), -1);
        CHECK.due("sway(0, 1, 0)", r.sway(0, 1, 0), -1);
        CHECK.due("sway(0, 1, 21)", r.sway(0, 1, 21), -1);
        CHECK.due("nothing went", r.rope(2, 2), 0);
        RopeRooms s = Check.town("l4,b11,s100");
        CHECK.due("slips always", s.sway(0, 60, 20), 20);
        s.brake(0, false);
        CHECK.due("no brake, no slip", s.sway(0, 2, 20), 0);
        // The draws of the TOWN are not touched by it.
        RopeRooms a = Check.town("l20,b11,s50", 5);
        RopeRooms b = Check.town("l20,b11,s50", 5);
        a.sway(0, 60, 20);
        CHECK.due("the same draws", a.minutes(15), b.minutes(15));
    }

    /** Promises 41 and 42. */
    private static void images() {
        RopeRooms r = Check.town("l20,b11,s50;l9,x4,a12", 4);
        CHECK.due("no image", r.back(), -1);
        r.minutes(3);
        r.water(1, 1);
        r.brake(1, false);
        CHECK.due("image", r.image(), 3);
        int x = r.rope(0, 2);
        int steps = r.minutes(9);
        int later = r.rope(0, 2);
        r.water(1, 50);
        r.brake(1, true);
        r.want(0, 7);
        CHECK.due("back", r.back(), 3);
        CHECK.due("minutes", r.count(3), 3);
        CHECK.due("x", r.rope(0, 2), x);
        CHECK.due("travel", r.rope(0, 7), x);
        CHECK.due("x of the other", r.rope(1, 2), 4);
        CHECK.due("travel of the other", r.rope(1, 7), 0);
        CHECK.due("water", r.room(1, 3), 1);
        CHECK.due("brake", r.rope(1, 6), 0);
        CHECK.due("the same draws again", r.minutes(9), steps);
        CHECK.due("to the same end", r.rope(0, 2), later);
        CHECK.due("back a second time", r.back(), 3);
        CHECK.due("x again", r.rope(0, 2), x);
        r.minutes(2);
        CHECK.due("an image instead", r.image(), 5);
        r.minutes(2);
        CHECK.due("back to that", r.back(), 5);
        CHECK.due("minutes of that", r.count(3), 5);
        Check.tape(r, "l1");
        r.text(0, 0);
        CHECK.due("a faulty text leaves it", r.back(), 5);
        Check.tape(r, "l4");
        r.text(0, 0);
        CHECK.due("not of another town", r.back(), -1);
    }

    private static void imageAndPersons() {
        RopeRooms r = Check.town("l4,x2");
        r.gallery(2);
        r.beside(0, 12, true);
        r.beside(0, 1, true);
        r.person(2, 0);
        r.image();
        r.step(0, 12);
        r.person(3, 1);
        r.gallery(3);
        r.task(0, 0);
        CHECK.due("back", r.back(), 0);
        CHECK.due("where it was", r.where(0), 0);
        CHECK.due("who came later stays", r.where(1), 1);
        CHECK.due("persons", r.count(5), 2);
        CHECK.due("bears of 1", r.room(1, 2), 13);
        r.step(1, 0);
        CHECK.due("back again", r.back(), 0);
        CHECK.due("who came later stays where it is", r.where(1), 0);
        CHECK.due("galleries", r.count(4), 2);
        CHECK.due("tasks", r.count(6), 1);
    }

    /** Promise 43. */
    private static void counts() {
        RopeRooms r = Check.town("l4;l4;l4");
        Check.rule(r, "y:1");
        Check.rule(r, "y:2");
        Check.tape(r, "hallo");
        r.minutes(7);
        r.gallery(1);
        r.person(1, 0);
        r.person(1, 0);
        r.task(0, 1);
        int[] due = {3, 2, 5, 7, 1, 2, 1};
        for (int what = 0; what < 7; what++) {
            CHECK.due("count(" + what + ")", r.count(what), due[what]);
        }
        CHECK.due("count(7)", r.count(7), -1000000);
        CHECK.due("count(-1)", r.count(-1), -1000000);
        CHECK.due("NONE", RopeRooms.NONE, -1);
        CHECK.due("HIDDEN", RopeRooms.HIDDEN, -1000000);
    }
}
