import java.util.List;

/** Boundary cases of promises 13 to 20: GALLERIES, BESIDE, MEET, PERSONS, STEPS, WAY, UNSEEN. */
public final class Edge13to20Test {
    private static final int MIN = Edges.MIN;
    private static final int MAX = Edges.MAX;
    private static final int HIDDEN = -1000000;
    /** PLACES that a TOWN of three ROPES and two GALLERIES does not have. */
    private static final int[] NO_PLACES = {-1, 6, 11, 14, 17, 18, 31, 32, 33, MIN, MAX};

    private final Edges e;

    private Edge13to20Test(Edges e) {
        this.e = e;
    }

    public static void main(String[] args) {
        Edges e = new Edges("Edge13to20Test");
        tell(e);
        e.run();
    }

    static void tell(Edges e) {
        Edge13to20Test t = new Edge13to20Test(e);
        t.galleries();
        t.beside();
        t.meeting();
        t.persons();
        t.stepping();
        t.where();
        t.ways();
        t.unseen();
    }

    // ---- promise 13

    private void galleries() {
        e.edge(13, "PLACES: rooms 0 .. 11 and GALLERIES 12 .. 17 (6 at most, each at a told HEIGHT 0 .. 60)", () -> {
            RopeRooms r = Check.town("l4");
            int[] heights = {0, 60, 1, 59, 0, 60};
            for (int i = 0; i < 6; i++) {
                e.due("gallery " + i, r.gallery(heights[i]), 12 + i);
                e.due("count(4)", r.count(4), i + 1);
            }
            e.due("a seventh", r.gallery(5), -1);
            r.beside(12, 16, true);
            r.beside(13, 17, true);
            r.beside(12, 14, true);
            e.due("two at 0", r.meet(12, 16), 1);
            e.due("two at 60", r.meet(13, 17), 1);
            e.due("0 and 1", r.meet(12, 14), 0);
            e.due("all PLACES of a full TOWN", Edges.full().group(-1) > 0, true);
            e.due("the last room is a PLACE", Edges.full().group(11) > 0, true);
            e.due("the last GALLERY is a PLACE", Edges.full().group(17) > 0, true);
            e.due("no PLACE behind it", Edges.full().group(18), -1);
        });
        e.refused(13, "NONE: no TOWN", Edges::ruled, -1, List.of(r -> r.gallery(0), r -> r.gallery(60)));
        e.refused(13, "NONE: out of bounds", Edges::some, -1,
            List.of(r -> r.gallery(-1), r -> r.gallery(61), r -> r.gallery(MIN), r -> r.gallery(MAX)));
        e.refused(13, "NONE: there are six", Edges::full, -1,
            List.of(r -> r.gallery(0), r -> r.gallery(60), r -> r.gallery(61)));
    }

    // ---- promise 14

    private void beside() {
        e.edge(14, "Two PLACES are BESIDE one another, or not", () -> {
            RopeRooms r = Check.town("l4,x2;l4,x2");
            r.gallery(2);
            int[] places = {0, 1, 2, 3, 12};
            for (int one : places) {
                for (int other : places) {
                    if (one != other) {
                        e.due("not at first", r.meet(one, other), 0);
                        e.due("not, told again", r.beside(one, other, false), true);
                        e.due("beside", r.beside(one, other, true), true);
                        e.due("beside, told again", r.beside(one, other, true), true);
                        e.due("they meet", r.meet(one, other), 1);
                        e.due("and the other way round", r.meet(other, one), 1);
                        e.due("no more, told the other way round", r.beside(other, one, false), true);
                        e.due("they don't meet", r.meet(one, other), 0);
                    }
                }
            }
            RopeRooms full = Edges.full();
            e.due("the first and the last PLACE", full.beside(0, 17, true), true);
            e.due("the last room and the first GALLERY", full.beside(11, 12, true), true);
        });
        e.edge(14, "False: no such ones", () -> {
            for (int wrong : NO_PLACES) {
                for (boolean is : new boolean[] {true, false}) {
                    e.refuses("beside(" + wrong + ", 0)", Edges::some, 0, r -> Edges.bit(r.beside(wrong, 0, is)));
                    e.refuses("beside(12, " + wrong + ")", Edges::some, 0, r -> Edges.bit(r.beside(12, wrong, is)));
                }
            }
            e.refuses("no TOWN", Edges::bare, 0, r -> Edges.bit(r.beside(0, 1, true)));
            // Told of a GALLERY ahead of its time, it must not be so when the GALLERY comes.
            RopeRooms r = Check.town("l4,x2");
            e.due("ahead of its time", r.beside(0, 12, true), false);
            r.gallery(2);
            e.due("not so then", r.meet(0, 12), 0);
            e.due("one behind the last PLACE", Edges.full().beside(0, 18, true), false);
        });
        e.edge(14, "False: alike", () -> {
            for (int place : new int[] {0, 5, 12, 13}) {
                for (boolean is : new boolean[] {true, false}) {
                    e.refuses("beside(" + place + ", the same)", Edges::some, 0, r -> Edges.bit(r.beside(place, place, is)));
                }
            }
        });
    }

    // ---- promise 15

    private void meeting() {
        e.edge(15, "Two MEET, if they are BESIDE and at one HEIGHT", () -> {
            RopeRooms r = Check.town("k2,l8,x3;l8,x4");
            r.gallery(4);
            r.beside(0, 2, true);
            r.beside(0, 12, true);
            e.due("one below", r.meet(0, 2), 0);
            r.turn(0, 1);
            e.due("at one HEIGHT", r.meet(0, 2), 1);
            e.due("at that of a GALLERY", r.meet(12, 0), 1);
            e.due("at one HEIGHT, not BESIDE", r.meet(2, 12), 0);
            r.turn(0, 1);
            e.due("one above", r.meet(0, 2), 0);
            RopeRooms high = Check.town("l20,x20;l20,x20,u0;l20,x20,u2");
            high.gallery(60);
            high.gallery(0);
            high.beside(4, 12, true);
            high.beside(1, 13, true);
            e.due("at 60", high.meet(4, 12), 1);
            e.due("at 0", high.meet(1, 13), 1);
        });
        e.edge(15, "Whether two MEET (1, 0)", () -> {
            e.due("they do", Edges.some().meet(12, 0) >= 0, true);
            e.due("they don't", Edges.some().meet(4, 0), 0);
        });
        e.edge(15, "NONE: no such ones", () -> {
            for (int wrong : NO_PLACES) {
                e.refuses("meet(" + wrong + ", 0)", Edges::some, -1, r -> r.meet(wrong, 0));
                e.refuses("meet(0, " + wrong + ")", Edges::some, -1, r -> r.meet(0, wrong));
            }
            e.due("no TOWN", Edges.bare().meet(0, 1), -1);
        });
        e.refused(15, "NONE: alike", Edges::some, -1, List.of(r -> r.meet(0, 0), r -> r.meet(5, 5), r -> r.meet(12, 12)));
    }

    // ---- promise 16

    private void persons() {
        e.edge(16, "PERSONS (8 at most), each of a weight (1 .. 9), are at PLACES", () -> {
            RopeRooms r = Check.town("l4");
            r.gallery(1);
            int[] weights = {1, 9, 1, 9, 1, 9, 1, 9};
            int[] places = {0, 1, 12, 0, 1, 12, 0, 1};
            for (int i = 0; i < 8; i++) {
                e.due("person " + i, r.person(weights[i], places[i]), i);
                e.due("where(" + i + ")", r.where(i), places[i]);
                e.due("count(5)", r.count(5), i + 1);
            }
            e.due("a ninth", r.person(1, 0), -1);
            e.due("room 0 bears 1, 9 and 1", r.room(0, 2), 21);
            e.due("room 1 bears 9, 1 and 9", r.room(1, 2), 29);
            RopeRooms last = Edges.some();
            e.due("in the last room", last.person(1, 5), 2);
            e.due("in the last GALLERY", last.person(1, 13), 3);
        });
        e.edge(16, "NONE: no such ones", () -> {
            for (int wrong : NO_PLACES) {
                e.refuses("person(1, " + wrong + ")", Edges::some, -1, r -> r.person(1, wrong));
            }
            e.refuses("no TOWN", Edges::bare, -1, r -> r.person(1, 0));
        });
        e.refused(16, "NONE: out of bounds", Edges::some, -1,
            List.of(r -> r.person(0, 0), r -> r.person(10, 0), r -> r.person(-1, 12), r -> r.person(MIN, 0),
                r -> r.person(MAX, 0)));
        e.refused(16, "NONE: there are eight", Edges::full, -1,
            List.of(r -> r.person(1, 0), r -> r.person(9, 17), r -> r.person(0, 0)));
    }

    // ---- promise 17

    private void stepping() {
        e.edge(17, "one STEPS to a PLACE that MEETS its own", () -> {
            RopeRooms r = Check.town("k2,l8,x3,h0;l8,x3");
            r.gallery(3);
            r.beside(0, 12, true);
            r.beside(0, 2, true);
            r.person(9, 12);
            e.due("step(0, 0)", r.step(0, 0), true);
            e.due("it is there", r.where(0), 0);
            e.due("it weighs there", r.room(0, 2), 19);
            e.due("on to room 2", r.step(0, 2), true);
            e.due("it weighs no more", r.room(0, 2), 10);
            e.due("back", r.step(0, 0), true);
            r.turn(0, 1);
            e.due("one above", r.step(0, 2), false);
            e.due("it stays", r.where(0), 0);
        });
        e.edge(17, "False: no such ones", () -> {
            for (int wrong : NO_PLACES) {
                e.refuses("step(0, " + wrong + ")", Edges::some, 0, r -> Edges.bit(r.step(0, wrong)));
            }
            for (int wrong : new int[] {-1, 2, 7, 8, MIN, MAX}) {
                e.refuses("step(" + wrong + ", 12)", Edges::some, 0, r -> Edges.bit(r.step(wrong, 12)));
            }
            e.refuses("nobody there", () -> level(false), 0, r -> Edges.bit(r.step(0, 1)));
            e.refuses("no TOWN", Edges::bare, 0, r -> Edges.bit(r.step(0, 1)));
            e.due("a ninth", Edges.full().step(8, 1), false);
        });
        e.edge(17, "False: they do not MEET", () -> {
            e.refuses("its own PLACE", () -> level(true), 0, r -> Edges.bit(r.step(0, 0)));
            e.refuses("not BESIDE", () -> level(true), 0, r -> Edges.bit(r.step(0, 2)));
            e.refuses("BESIDE, not at one HEIGHT", () -> level(true), 0, r -> Edges.bit(r.step(0, 4)));
            RopeRooms r = level(true);
            e.due("BESIDE and at one HEIGHT", r.step(0, 1), true);
        });
    }

    /** Rooms 0 1 2 3 at 2, 4 at 1; 0 BESIDE 1 and 4; perhaps one PERSON in room 0. */
    private static RopeRooms level(boolean somebody) {
        RopeRooms r = Check.town("l4,x2;l4,x2;l4,x1");
        r.beside(0, 1, true);
        r.beside(0, 4, true);
        if (somebody) {
            r.person(3, 0);
        }
        return r;
    }

    // ---- promise 18

    private void where() {
        e.edge(18, "Where a PERSON is", () -> {
            RopeRooms r = Edges.full();
            for (int i = 0; i < 8; i++) {
                e.due("where(" + i + ")", r.where(i), i);
            }
        });
        e.refused(18, "NONE: no such one", Edges::some, -1,
            List.of(r -> r.where(-1), r -> r.where(2), r -> r.where(8), r -> r.where(MIN), r -> r.where(MAX)));
        e.edge(18, "no such one", () -> {
            e.due("nobody there", level(false).where(0), -1);
            e.due("no TOWN", Edges.bare().where(0), -1);
            e.due("a ninth", Edges.full().where(8), -1);
        });
    }

    // ---- promise 19

    private void ways() {
        e.edge(19, "the least number (0 .. 60) of MINUTES behind which it can be there", () -> {
            // Room 0 goes from 0 to 20; no TOWN without SLIP goes on longer than 20 MINUTES.
            RopeRooms r = Check.town("l20,b99;l20,x20,a99,b1");
            for (int h : new int[] {0, 1, 10, 19, 20, 21}) {
                r.beside(0, r.gallery(h), true);
            }
            r.beside(0, 2, true);
            int[] due = {0, 1, 10, 19, 20, -1};
            for (int g = 0; g < 6; g++) {
                e.due("way(0, " + (12 + g) + ")", r.way(0, 12 + g), due[g]);
            }
            e.due("from a GALLERY that is left behind 0", r.way(12, 16), 20);
            e.due("by a room that comes the other way", r.way(0, 2), 10);
            e.due("too late into it: it is past", r.way(15, 14), -1);
            e.due("nothing went", r.rope(0, 2) + r.count(3), 0);
        });
        e.edge(19, "ahead of each MINUTE any steps between PLACES that MEET then", () -> {
            RopeRooms r = Check.town("l4,x2;l4,x2;l4,x2;l4,x2;l4,x2;l4,x2");
            for (int g = 0; g < 6; g++) {
                r.gallery(2);
            }
            for (int i = 0; i < 17; i++) {
                r.beside(i, i + 1, true);
            }
            e.due("seventeen steps at once", r.way(0, 17), 0);
            e.due("and back", r.way(17, 0), 0);
            r.beside(8, 9, false);
            e.due("one of them missing", r.way(0, 17), -1);
            RopeRooms s = Check.town("l4,x0,b99");
            for (int h : new int[] {0, 0, 2, 2, 4}) {
                s.gallery(h);
            }
            s.beside(12, 13, true);
            s.beside(13, 0, true);
            s.beside(0, 14, true);
            s.beside(14, 15, true);
            s.beside(0, 16, true);
            e.due("steps ahead of the first MINUTE and behind the second", s.way(12, 15), 2);
            e.due("and behind the last", s.way(12, 16), 4);
        });
        e.edge(19, "from a PLACE to another one, in the TOWN as it goes on by MINUTES without SLIP", () -> {
            RopeRooms r = Check.town("l4,b11,s100");
            r.gallery(1);
            r.beside(0, 12, true);
            e.due("SLIP does not count", r.way(0, 12), -1);
            r.brake(0, false);
            e.due("its BRAKE does", r.way(0, 12), 1);
            e.due("to where it is", r.way(0, 0), 0);
            e.due("to the GALLERY where it is", r.way(12, 12), 0);
        });
        e.edge(19, "somebody without weight", () -> {
            RopeRooms r = Check.town("l4,x2,h0");
            r.gallery(2);
            r.gallery(1);
            r.beside(12, 0, true);
            r.beside(0, 13, true);
            e.due("it does not weigh", r.way(12, 13), -1);
            r.person(1, 0);
            e.due("others do", r.way(12, 13), 1);
        });
        e.edge(19, "NONE: not by 60", () -> {
            RopeRooms r = Check.town("l20,b99");
            r.gallery(21);
            r.beside(0, 12, true);
            e.due("never", r.way(0, 12), -1);
            e.due("not BESIDE", r.way(0, 1), -1);
        });
        e.edge(19, "NONE: no such ones", () -> {
            for (int wrong : NO_PLACES) {
                e.refuses("way(" + wrong + ", 0)", Edges::some, -1, r -> r.way(wrong, 0));
                e.refuses("way(0, " + wrong + ")", Edges::some, -1, r -> r.way(0, wrong));
                e.due("way(" + wrong + ", the same)", Edges.some().way(wrong, wrong), -1);
            }
            e.due("no TOWN", Edges.bare().way(0, 0), -1);
        });
    }

    // ---- promise 20

    private void unseen() {
        e.edge(20, "of 0 .. n (n 0 .. 60) the least number of MINUTES (without SLIP) behind which two rooms are at one"
            + " HEIGHT", () -> {
            RopeRooms r = Check.town("l20,b99,s100;l20,x20;l20;l20,x1");
            e.due("behind the last MINUTE: n 60", r.unseen(0, 2, 60), 20);
            e.due("n 20", r.unseen(0, 2, 20), 20);
            e.due("n 19", r.unseen(0, 2, 19), -1);
            e.due("behind 0, n 0", r.unseen(0, 4, 0), 0);
            e.due("behind 0, n 60", r.unseen(0, 4, 60), 0);
            e.due("behind 1, n 0", r.unseen(0, 6, 0), -1);
            e.due("behind 1, n 1", r.unseen(0, 6, 1), 1);
            e.due("the other way round", r.unseen(6, 0, 1), 1);
            e.due("both of one ROPE", r.unseen(0, 1, 60), 10);
            e.due("BESIDE or not", r.unseen(1, 0, 10), 10);
            e.due("SLIP does not count", Check.town("l4,b11,s100").unseen(0, 1, 60), -1);
        });
        e.edge(20, "NONE: none to n", () -> {
            RopeRooms r = Check.town("l3,x1,b99");
            e.due("they pass one another between two MINUTES", r.unseen(0, 1, 60), -1);
            e.due("n 0", r.unseen(0, 1, 0), -1);
        });
        e.edge(20, "HIDDEN: no such ones", () -> {
            for (int wrong : NO_PLACES) {
                e.refuses("unseen(" + wrong + ", 0)", Edges::some, HIDDEN, r -> r.unseen(wrong, 0, 5));
                e.refuses("unseen(0, " + wrong + ")", Edges::some, HIDDEN, r -> r.unseen(0, wrong, 5));
            }
            e.due("a GALLERY is no room", Edges.some().unseen(0, 12, 5), HIDDEN);
            e.due("no TOWN", Edges.bare().unseen(0, 1, 5), HIDDEN);
        });
        e.refused(20, "HIDDEN: alike", Edges::some, HIDDEN, List.of(r -> r.unseen(0, 0, 5), r -> r.unseen(5, 5, 0)));
        e.refused(20, "HIDDEN: out of bounds", Edges::some, HIDDEN, List.of(r -> r.unseen(0, 1, -1),
            r -> r.unseen(0, 1, 61), r -> r.unseen(0, 1, MIN), r -> r.unseen(0, 1, MAX)));
    }
}
