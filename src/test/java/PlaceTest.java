/** Promises 13 to 20: GALLERIES, who is BESIDE whom, PERSONS, WAY and UNSEEN. */
public final class PlaceTest {
    private static final Check CHECK = new Check("PlaceTest");

    public static void main(String[] args) {
        galleries();
        neighbours();
        persons();
        stepping();
        ways();
        unseen();
        CHECK.finish();
    }

    /** Promise 13. */
    private static void galleries() {
        RopeRooms r = Check.town("l4");
        CHECK.due("gallery(-1)", r.gallery(-1), -1);
        CHECK.due("gallery(61)", r.gallery(61), -1);
        CHECK.due("gallery(0)", r.gallery(0), 12);
        CHECK.due("gallery(60)", r.gallery(60), 13);
        for (int i = 2; i < 6; i++) {
            CHECK.due("gallery " + i, r.gallery(4), 12 + i);
        }
        CHECK.due("a seventh", r.gallery(4), -1);
        CHECK.due("count(4)", r.count(4), 6);
    }

    /** Promises 14 and 15. */
    private static void neighbours() {
        RopeRooms r = Check.town("l4,x2;l4,x1");
        r.gallery(2);
        CHECK.due("meet, not beside", r.meet(0, 1), 0);
        CHECK.due("beside(0, 1)", r.beside(0, 1, true), true);
        CHECK.due("meet(0, 1)", r.meet(0, 1), 1);
        CHECK.due("meet(1, 0)", r.meet(1, 0), 1);
        CHECK.due("beside(12, 1)", r.beside(12, 1, true), true);
        CHECK.due("meet(1, 12)", r.meet(1, 12), 1);
        CHECK.due("beside(2, 0)", r.beside(2, 0, true), true);
        CHECK.due("beside, not at one height", r.meet(0, 2), 0);
        CHECK.due("not beside any more", r.beside(1, 0, false), true);
        CHECK.due("meet then", r.meet(0, 1), 0);
        CHECK.due("others stay beside", r.meet(1, 12), 1);
        CHECK.due("alike", r.beside(1, 1, true), false);
        CHECK.due("alike meet", r.meet(1, 1), -1);
        CHECK.due("no such room", r.beside(0, 4, true), false);
        CHECK.due("no such gallery", r.beside(0, 13, true), false);
        CHECK.due("beside(-1, 0)", r.beside(-1, 0, true), false);
        CHECK.due("beside(0, 18)", r.beside(0, 18, true), false);
        CHECK.due("meet(0, 4)", r.meet(0, 4), -1);
        CHECK.due("meet(13, 0)", r.meet(13, 0), -1);
        CHECK.due("meet(max, min)", r.meet(Integer.MAX_VALUE, Integer.MIN_VALUE), -1);
    }

    /** Promises 16 and 18. */
    private static void persons() {
        RopeRooms r = Check.town("l4");
        r.gallery(1);
        CHECK.due("weight 0", r.person(0, 0), -1);
        CHECK.due("weight 10", r.person(10, 0), -1);
        CHECK.due("no such room", r.person(1, 2), -1);
        CHECK.due("no such gallery", r.person(1, 13), -1);
        CHECK.due("place -1", r.person(1, -1), -1);
        CHECK.due("where(0) of nobody", r.where(0), -1);
        for (int i = 0; i < 8; i++) {
            CHECK.due("person " + i, r.person(1 + i, i % 3 == 2 ? 12 : i % 3), i);
        }
        CHECK.due("a ninth", r.person(1, 0), -1);
        CHECK.due("count(5)", r.count(5), 8);
        CHECK.due("bears of 0", r.room(0, 2), 10 + 1 + 4 + 7);
        CHECK.due("bears of 1", r.room(1, 2), 10 + 2 + 5 + 8);
        CHECK.due("where(2)", r.where(2), 12);
        CHECK.due("where(7)", r.where(7), 1);
        CHECK.due("where(8)", r.where(8), -1);
        CHECK.due("where(-1)", r.where(-1), -1);
    }

    /** Promise 17. */
    private static void stepping() {
        RopeRooms r = Check.town("l4,x2,a10,b10,h5;l6,x2");
        r.beside(0, 1, true);
        r.beside(0, 2, true);
        r.beside(0, 3, true);
        r.person(6, 0);
        CHECK.due("not beside", r.step(0, 0), false);
        CHECK.due("not at one height", r.step(0, 3), false);
        CHECK.due("nobody", r.step(1, 1), false);
        CHECK.due("step(-1, 1)", r.step(-1, 1), false);
        CHECK.due("no such place", r.step(0, 4), false);
        CHECK.due("no such gallery", r.step(0, 12), false);
        CHECK.due("step(0, 1)", r.step(0, 1), true);
        CHECK.due("where(0)", r.where(0), 1);
        CHECK.due("bears of 0", r.room(0, 2), 10);
        CHECK.due("bears of 1", r.room(1, 2), 16);
        CHECK.due("carried off", r.minutes(1), 1);
        CHECK.due("up", r.rope(0, 2), 3);
        CHECK.due("no way back", r.step(0, 0), false);
        CHECK.due("where(0) then", r.where(0), 1);
    }

    /** Promise 19. */
    private static void ways() {
        // Room 0 goes 0 .. 8, room 2 goes 8 .. 0: they pass at 4 behind 4 minutes; galleries at 1, 7 and 9.
        RopeRooms r = Check.town("l8,x0,b16,h5;l8,x8,a16,h5");
        r.gallery(1);
        r.gallery(7);
        r.gallery(9);
        r.beside(0, 2, true);
        r.beside(0, 12, true);
        r.beside(2, 12, true);
        r.beside(2, 13, true);
        r.beside(0, 13, true);
        r.beside(0, 14, true);
        CHECK.due("way(0, 2)", r.way(0, 2), 4);
        CHECK.due("way(2, 0)", r.way(2, 0), 4);
        CHECK.due("way(0, 12)", r.way(0, 12), 1);
        CHECK.due("way(12, 13)", r.way(12, 13), 7);
        CHECK.due("way(13, 12) by 2 at once, which is at 7 behind 1", r.way(13, 12), 7);
        CHECK.due("way(12, 2): into 0 behind 1, over behind 4", r.way(12, 2), 4);
        CHECK.due("way(0, 14): too high", r.way(0, 14), -1);
        CHECK.due("way(0, 0)", r.way(0, 0), 0);
        CHECK.due("way(0, 1): not beside", r.way(0, 1), -1);
        CHECK.due("way(0, 4)", r.way(0, 4), -1);
        CHECK.due("way(15, 0)", r.way(15, 0), -1);
        CHECK.due("way(-1, 0)", r.way(-1, 0), -1);
        CHECK.due("nothing went", r.rope(0, 2), 0);
        CHECK.due("no minutes", r.count(3), 0);
        // Several steps at once, ahead of the first minute.
        RopeRooms s = Check.town("l4,x2;l4,x2");
        s.beside(0, 1, true);
        s.beside(1, 2, true);
        s.beside(2, 3, true);
        CHECK.due("three steps", s.way(0, 3), 0);
        // SLIP does not count.
        RopeRooms t = Check.town("l4,b11,s100");
        t.beside(0, 1, true);
        CHECK.due("no slip", t.way(0, 1), -1);
        // One without weight: who is in a room already weighs, it does not.
        RopeRooms u = Check.town("l4,x2,b11,h1");
        u.gallery(2);
        u.gallery(3);
        u.beside(0, 12, true);
        u.beside(0, 13, true);
        CHECK.due("at rest", u.way(12, 13), -1);
        u.person(1, 1);
        CHECK.due("carried up", u.way(12, 13), 1);
        CHECK.due("not back", u.way(13, 12), -1);
    }

    /** Promise 20. */
    private static void unseen() {
        RopeRooms r = Check.town("l8,x0,b16,h5,s100;l8,x2");
        r.gallery(8);
        CHECK.due("unseen(0, 1)", r.unseen(0, 1, 60), 4);
        CHECK.due("unseen(1, 0) to 4", r.unseen(1, 0, 4), 4);
        CHECK.due("unseen(0, 1) to 3", r.unseen(0, 1, 3), -1);
        CHECK.due("unseen(0, 2)", r.unseen(0, 2, 60), 2);
        CHECK.due("unseen(1, 3)", r.unseen(1, 3, 60), 2);
        CHECK.due("unseen(0, 2) to 0", r.unseen(0, 2, 0), -1);
        CHECK.due("unseen(2, 3) never", r.unseen(2, 3, 60), -1);
        CHECK.due("unseen(0, 0)", r.unseen(0, 0, 5), -1000000);
        CHECK.due("unseen(0, 4)", r.unseen(0, 4, 5), -1000000);
        CHECK.due("unseen of a gallery", r.unseen(1, 12, 5), -1000000);
        CHECK.due("unseen to -1", r.unseen(0, 1, -1), -1000000);
        CHECK.due("unseen to 61", r.unseen(0, 1, 61), -1000000);
        CHECK.due("nothing went", r.rope(0, 2), 0);
    }
}
