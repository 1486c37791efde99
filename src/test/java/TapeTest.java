/** Promises 1 to 5: a new object, the TAPE, the FAULT of both sorts of texts, and telling them. */
public final class TapeTest {
    private static final Check CHECK = new Check("TapeTest");

    public static void main(String[] args) {
        newObject();
        feeding();
        ending();
        townFaults();
        ruleFaults();
        telling();
        newTownForgets();
        CHECK.finish();
    }

    /** Promise 1: no TOWN, so each call answers as for what is not there. */
    private static void newObject() {
        RopeRooms r = new RopeRooms();
        for (int what = 0; what <= 6; what++) {
            CHECK.due("new: count(" + what + ")", r.count(what), 0);
        }
        CHECK.dueNoRope(r, 0, 0);
        CHECK.due("new: fault(0)", r.fault(0), 0);
        CHECK.due("new: fault(1)", r.fault(1), 0);
        CHECK.due("new: text(0)", r.text(0, 1), -1);
        CHECK.due("new: text(1)", r.text(1, 1), -1);
        CHECK.due("new: room", r.room(0, 0), -1000000);
        CHECK.due("new: brake", r.brake(0, true), false);
        CHECK.due("new: water", r.water(0, 0), false);
        CHECK.due("new: turn", r.turn(0, 0), -1);
        CHECK.due("new: minutes", r.minutes(1), -1);
        CHECK.due("new: rest", r.rest(), -1);
        CHECK.due("new: gallery", r.gallery(0), -1);
        CHECK.due("new: beside", r.beside(0, 1, true), false);
        CHECK.due("new: meet", r.meet(0, 1), -1);
        CHECK.due("new: person", r.person(1, 0), -1);
        CHECK.due("new: step", r.step(0, 0), false);
        CHECK.due("new: where", r.where(0), -1);
        CHECK.due("new: way", r.way(0, 0), -1);
        CHECK.due("new: unseen", r.unseen(0, 1, 1), -1000000);
        CHECK.due("new: want", r.want(0, 1), false);
        CHECK.due("new: pails", r.pails(-1), -1000000);
        CHECK.due("new: together", r.together(0), -1);
        CHECK.due("new: task", r.task(0, 0), -1);
        CHECK.due("new: orders", r.orders(0), -1);
        CHECK.due("new: woke", r.woke(0, 1), false);
        CHECK.due("new: slipped", r.slipped(1), -1);
        CHECK.due("new: rent of a room", r.rent(0, 1), -1);
        CHECK.due("new: rent of all (no rooms)", r.rent(-1, 1), 0);
        CHECK.due("new: even", r.even(0), -1);
        CHECK.due("new: keep", r.keep(0, 1), -1);
        CHECK.due("new: tried", r.tried(0, 1, 0), -1);
        CHECK.due("new: best", r.best(1), -1);
        CHECK.due("new: feast", r.feast(1), -1);
        CHECK.due("new: group", r.group(-1), -1);
        CHECK.due("new: often", r.often(0, 1, 1, 0), -1000000);
        CHECK.due("new: cut", r.cut(0, 0), -1);
        CHECK.due("new: load", r.load(0), -1);
        CHECK.due("new: strain", r.strain(-1), -1);
        CHECK.due("new: above", r.above(0), -1);
        CHECK.due("new: sway", r.sway(0, 1, 1), -1);
        CHECK.due("new: image", r.image(), -1);
        CHECK.due("new: back", r.back(), -1);
        // A RULE needs no TOWN, but its use does.
        CHECK.due("rule without a town", Check.rule(r, "y:1"), 0);
        CHECK.due("keep without a town", r.keep(0, 1), -1);
        CHECK.due("best without a town", r.best(1), -1);
    }

    /** Promise 2. */
    private static void feeding() {
        RopeRooms r = new RopeRooms();
        CHECK.due("feed of nothing", r.feed(0, 0, 0, 0, 0), 0);
        CHECK.due("feed, zeros between left out", r.feed(0x6C000034, 0, 0x003B0000, 0, 0x6C353500), 6);
        CHECK.due("fault of l4;l55 by its last digit", r.fault(0), 5);
        CHECK.due("end(0)", r.end(0), true);
        CHECK.due("feed of the highest byte first", r.feed(0x6C313000, 0, 0, 0, 0), 3);
        CHECK.due("bytes above 127 count", r.feed(0xFFFEFDFC, 0x80000000, 0, 0, 0), 8);
        CHECK.due("and are wrong at their place", r.fault(0), 3);
        r.end(0);
        for (int i = 1; i <= 8; i++) {
            int w = 0x20202020;
            CHECK.due("feed " + i, r.feed(w, w, w, w, w), 20 * i);
        }
        CHECK.due("feed beyond 160", r.feed(0x6C000000, 0, 0, 0, 0), -1);
        CHECK.due("count(2) as it was", r.count(2), 160);
        CHECK.due("feed of nothing at 160", r.feed(0, 0, 0, 0, 0), 160);
        r.end(159);
        CHECK.due("two bytes at 159", r.feed(0x6C340000, 0, 0, 0, 0), -1);
        CHECK.due("nothing of them came", r.count(2), 159);
        CHECK.due("one byte at 159", r.feed(0, 0, 0, 0, 0x34), 160);
        CHECK.due("fault behind 159 blanks", r.fault(0), 159);
        // Each byte of each number counts towards 160, wherever it stands.
        for (int i = 0; i < 20; i++) {
            int[] w = new int[5];
            w[i / 4] = 0x34 << 8 * (i % 4);
            r.end(160);
            CHECK.due("one byte too many, " + i, r.feed(w[0], w[1], w[2], w[3], w[4]), -1);
            r.end(159);
            CHECK.due("the last byte, " + i, r.feed(w[0], w[1], w[2], w[3], w[4]), 160);
        }
    }

    /** Promise 3. */
    private static void ending() {
        RopeRooms r = new RopeRooms();
        CHECK.due("end(1) of an empty tape", r.end(1), false);
        CHECK.due("end(-1)", r.end(-1), false);
        Check.tape(r, "l4,x3;k9");
        CHECK.due("end(9) of 8", r.end(9), false);
        CHECK.due("count(2)", r.count(2), 8);
        CHECK.due("end(8)", r.end(8), true);
        CHECK.due("fault", r.fault(0), 7);
        CHECK.due("end(5)", r.end(5), true);
        CHECK.due("count(2) then", r.count(2), 5);
        CHECK.due("no fault then", r.fault(0), -1);
        CHECK.due("end(min)", r.end(Integer.MIN_VALUE), false);
        CHECK.due("end(max)", r.end(Integer.MAX_VALUE), false);
    }

    private static void fault(String text, int due) {
        CHECK.due("town fault of '" + text + "'", Check.townFault(text), due);
    }

    private static void ruleFault(String text, int due) {
        CHECK.due("rule fault of '" + text + "'", Check.ruleFault(text), due);
    }

    /** Promise 4, sort 0. */
    private static void townFaults() {
        fault("", 0);
        fault("   ", 3);
        fault("l", 1);
        fault("l ", 2);
        fault("lx", 1);
        fault("q1", 0);
        fault("L1", 0);
        fault("4", 0);
        fault(",l4", 0);
        fault("l4,", 3);
        fault("l4,,x1", 3);
        fault("l4x1", 2);
        fault("l4;;l4", 3);
        fault(";l4", 0);
        fault("l4:", 2);
        fault("l1 0", 1);
        fault("l4 0", 3);
        fault("l 4", -1);
        fault("l004", -1);
        fault("l0004", 4);
        fault("l999", 3);
        fault("l9999", 4);
        fault("l2", -1);
        fault("l20", -1);
        fault("l1", 1);
        fault("l21", 2);
        fault("k0", -1);
        fault("k2", -1);
        fault("k3", 1);
        fault("x10", -1);
        fault("x11", 2);
        fault("l12,x11", -1);
        fault("x11,l12", 2);
        fault("x4,l3", 4);
        fault("x4,l4", -1);
        fault("a0", 1);
        fault("a1,b99", -1);
        fault("a100", 3);
        fault("b0", 1);
        fault("b100", 3);
        fault("h0", -1);
        fault("h99", -1);
        fault("h100", 3);
        fault("s0", -1);
        fault("s100", -1);
        fault("s101", 3);
        fault("r9", -1);
        fault("r10", 2);
        fault("u0", 0);
        fault("l4, u0", 4);
        fault("l4;u0", -1);
        fault("l4;u1", -1);
        fault("l4;u2", 4);
        fault("l4;l4;u3", -1);
        fault("l4;l4;u4", 7);
        fault("a1,a2", 3);
        fault("a1;a2", -1);
        fault("a1,b1,a1", 6);
        fault("k1", -1);
        fault("k1,l5", 5);
        fault("l5,k1", 5);
        fault("k1,l5  ", 7);
        fault("k1,l5 ;l4", 6);
        fault("k1,x1", 5);
        fault("k1,x2", -1);
        fault("k1,l5,q", 6);
        fault("k2,l5,x1", -1);
        fault("l2;l2;l2;l2;l2;l2", -1);
        fault("l2;l2;l2;l2;l2;l2 ;", 18);
        fault("l2;l2;l2;l2;l2;u9", -1);
        fault("l2;l2;l2;l2;l2;u10", 17);
        fault("k0,l10,x0,a10,b10,h5,s0,r0", -1);
        fault("l2;k0,l10,x0,a10,b10,h5,s0,r0,u1", -1);
        RopeRooms r = new RopeRooms();
        CHECK.due("fault(2)", r.fault(2), -2);
        CHECK.due("fault(-1)", r.fault(-1), -2);
        CHECK.due("fault(max)", r.fault(Integer.MAX_VALUE), -2);
    }

    /** Promise 4, sort 1. */
    private static void ruleFaults() {
        ruleFault("", 0);
        ruleFault("x", 0);
        ruleFault("y", 1);
        ruleFault("y:", 2);
        ruleFault("y1", 1);
        ruleFault("y:1", -1);
        ruleFault(" y : 1 ", -1);
        ruleFault("y:1;", 4);
        ruleFault("y:1;y:2", -1);
        ruleFault("y:1y:2", 3);
        ruleFault("y:1 2", 4);
        ruleFault("y:9999", -1);
        ruleFault("y:99999", 6);
        ruleFault("y:p+x-l*h/d+t-i", -1);
        ruleFault("y:-1", 2);
        ruleFault("y:1+", 4);
        ruleFault("y:1++2", 4);
        ruleFault("y:y", 2);
        ruleFault("y:a", 2);
        ruleFault("y:[1+2]*3", -1);
        ruleFault("y:[1+2", 6);
        ruleFault("y:[1=2]", 4);
        ruleFault("y:[1)", 4);
        ruleFault("y:1]", 3);
        ruleFault("y:p=1", 5);
        ruleFault("y:p=1;", 5);
        ruleFault("y:p=1?", 6);
        ruleFault("y:p=1?2", -1);
        ruleFault("y:p=1=2?3", 5);
        ruleFault("y:p?1", 3);
        ruleFault("y:p&1", 3);
        ruleFault("y:p=1&x<2|l>3?4", -1);
        ruleFault("y:p=1&?4", 6);
        ruleFault("y:p=1&x?4", 7);
        ruleFault("y:p=1?2?3", 7);
        ruleFault("y:p=1?2=3", 7);
        ruleFault("y:p=1?!2", 6);
        ruleFault("y:p=1?(2", 6);
        ruleFault("y:(p=1)?2", -1);
        ruleFault("y:(p)?2", 4);
        ruleFault("y:(p=1?2", 6);
        ruleFault("y:(p=1)=2?2", 7);
        ruleFault("y:(p=1)+2?2", 7);
        ruleFault("y:(p=1)", 7);
        ruleFault("y:(p=1);", 7);
        ruleFault("y:!p=1?2", -1);
        ruleFault("y:!p", 4);
        ruleFault("y:!(p=1|!x=2)&t<3?2", -1);
        ruleFault("y:1+(p=1)?2", 4);
        ruleFault("y:1+!2", 4);
        ruleFault("y:!!!!!!p=1?1", -1);
        ruleFault("y:!!!!!!!p=1?1", 8);
        ruleFault("y:((((((p=1))))))?1", -1);
        ruleFault("y:(((((((p=1)))))))?1", 8);
        ruleFault("y:[[[[[[1]]]]]]", -1);
        ruleFault("y:[[[[[[[1]]]]]]]", 8);
        ruleFault("y:!(!(!([1]=1)))?1", 8);
        ruleFault("y:!(!(![1]=1))?1", -1);
        ruleFault("y:!(!(![1]=[[1]]))?1", 12);
        ruleFault("y:!!!!!!p=1&!!!!!!p=1?[[[[[[1]]]]]]", -1);
        ruleFault("y:!!!!!!p=[1]?1", 10);
        ruleFault("y:p{1", 3);
    }

    /** Promise 5. */
    private static void telling() {
        RopeRooms r = new RopeRooms();
        Check.tape(r, "l4;l6");
        CHECK.due("text of no such sort", r.text(2, 0), -1);
        CHECK.due("text of no such sort below", r.text(-1, 0), -1);
        CHECK.due("a town is no rule", r.text(1, 0), -1);
        CHECK.due("the tape stays", r.count(2), 5);
        CHECK.due("text(0)", r.text(0, 0), 2);
        CHECK.due("the tape is empty", r.count(2), 0);
        CHECK.due("ropes", r.count(0), 2);
        Check.tape(r, "l4;l6;l1");
        CHECK.due("a faulty town", r.text(0, 0), -1);
        CHECK.due("the town stays", r.count(0), 2);
        CHECK.due("its length too", r.rope(1, 1), 6);
        CHECK.due("the faulty tape stays", r.count(2), 8);
        for (int i = 0; i < 4; i++) {
            CHECK.due("rule " + i, Check.rule(r, "y:" + i), i);
            CHECK.due("its tape is empty", r.count(2), 0);
        }
        CHECK.due("a fifth rule", Check.rule(r, "y:4"), -1);
        CHECK.due("its tape stays", r.count(2), 3);
        CHECK.due("rules", r.count(1), 4);
        Check.tape(r, "l3");
        CHECK.due("another town", r.text(0, 0), 1);
        CHECK.due("rules stay", r.count(1), 4);
        CHECK.due("keep by an old rule", r.keep(1, 1), 0);
        CHECK.due("its brake is off", r.rope(0, 6), 0);
    }

    /** Promise 5: all that was of another TOWN is gone. */
    private static void newTownForgets() {
        RopeRooms r = Check.town("l4,x2,a10,b11,h0;l6", 5);
        r.gallery(3);
        r.beside(0, 1, true);
        r.beside(0, 12, true);
        r.person(3, 0);
        r.task(0, 1);
        r.want(0, 77);
        r.woke(0, 77);
        r.water(0, 9);
        r.brake(0, false);
        r.minutes(2);
        r.image();
        Check.tape(r, "l4,x2;l6");
        CHECK.due("text", r.text(0, 5), 2);
        CHECK.due("minutes gone", r.count(3), 0);
        CHECK.due("galleries gone", r.count(4), 0);
        CHECK.due("persons gone", r.count(5), 0);
        CHECK.due("tasks gone", r.count(6), 0);
        CHECK.due("water gone", r.room(0, 3), 0);
        CHECK.due("what is borne", r.room(0, 2), 10);
        CHECK.due("brake on", r.rope(0, 6), 1);
        CHECK.due("travel gone", r.rope(0, 7), 0);
        CHECK.due("x", r.rope(0, 2), 2);
        CHECK.due("wanted gone", r.together(0), 1);
        CHECK.due("pails", r.pails(-1), 0);
        CHECK.due("seen gone", r.slipped(1), 3);
        CHECK.due("no image of this town", r.back(), -1);
        CHECK.due("beside gone", r.meet(0, 1), 0);
        CHECK.due("a gallery anew", r.gallery(2), 12);
        CHECK.due("not beside any more", r.meet(0, 12), 0);
        CHECK.due("a person anew", r.person(1, 0), 0);
    }
}
