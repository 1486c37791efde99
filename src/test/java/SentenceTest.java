import java.util.List;
import java.util.function.ToIntFunction;

/**
 * The sentences of the document that name no boundary, one test each, worked by hand: what a call answers in plain
 * towns. With the boundary tests every sentence of the terms and of the promises has one (EdgeNamesTest looks).
 */
public final class SentenceTest {
    private static final int HIDDEN = -1000000;
    /**
     * Heights 4, 6, 8, 6, 7, 11; the rooms BEAR 35, 32, 10, 15, 10, 10; PULLS 3 (above its HOLD: the first room goes
     * down), 5 (held) and 0 (a screw).
     */
    private static final String HOUSE = "l10,x4,a10,b12,h1;k1,l8,x4,a10,b15,h9,u0;k2,l6,x1,u1";

    private final Edges e;

    private SentenceTest(Edges e) {
        this.e = e;
    }

    public static void main(String[] args) {
        Edges e = new Edges("SentenceTest");
        tell(e);
        e.run();
    }

    static void tell(Edges e) {
        SentenceTest t = new SentenceTest(e);
        t.object();
        t.texts();
        t.ropes();
        t.restAndScrews();
        t.places();
        t.ways();
        t.wishes();
        t.tasks();
        t.seenAndEven();
        t.rules();
        t.feastsAndGroups();
        t.shape();
        t.constants();
    }

    // ---- 'What it is'

    private void object() {
        e.edge(1, "An object is used for at most 512 calls after it has been made", () -> {
            RopeRooms r = Check.town("l20,x10,a10,b10,h0", 3); // three calls: end, feed, text
            int x = 10;
            for (int call = 4; call <= 510; call += 2) {
                int more = call % 40 < 20 ? 1 : 0;
                e.due("call " + call, r.water(0, more), true);
                int went = more == 1 && x > 0 ? 1 : 0;
                x -= went;
                e.due("call " + (call + 1), r.minutes(1), went);
            }
            e.due("the 512th call", r.room(1, 0), 20 - x);
        });
        e.edge(1, "RopeRooms()", () -> {
            RopeRooms one = new RopeRooms();
            RopeRooms other = Check.town(HOUSE);
            e.due("objects are apart", one.count(0), 0);
            e.due("the other has its TOWN", other.count(0), 3);
            e.due("its RULES too", Check.rule(other, "y:1"), 0);
            e.due("not the first one's", one.count(1), 0);
        });
    }

    // ---- promises 4 and 5

    private void texts() {
        e.edge(5, "A TOWN is a TEXT", () -> {
            List<String> due = Story.of(told("l8,x3,a7,b9,h2,s30,r1;k1,l6,x2,u1"));
            for (String text : List.of("r1,s30,h2,b9,a7,x3,l8;u1,x2,l6,k1", "s030,l008,a007,x003,b009,r001,h002;l6,u1,k1,x2",
                " l 8 , x 3 , a 7 , b 9 , h 2 , s 30 , r 1 ; k 1 , l 6 , x 2 , u 1 ", "k0,l8,x3,a7,b9,h2,s30,r1;a10,b10,h5,"
                + "s0,r0,k1,l6,x2,u1")) {
                List<String> got = Story.of(told(text));
                for (int i = 0; i < due.size(); i++) {
                    e.due(text, got.get(i), due.get(i));
                }
            }
        });
        e.edge(4, "and a number", () -> {
            for (String letter : List.of("k", "l", "x", "a", "b", "h", "s", "r")) {
                e.due(letter, Check.townFault(letter), 1);
                e.due(letter + ",", Check.townFault(letter + ",l4"), 1);
                e.due(letter + ";", Check.townFault(letter + ";l4"), 1);
                e.due(letter + "-", Check.townFault(letter + "-1"), 1);
                e.due(letter + " z", Check.townFault(letter + " z"), 2);
                e.due(letter + "2", Check.townFault(letter + "2"), -1);
            }
            e.due("u", Check.townFault("l4;u,x1"), 4);
            e.due("a number alone", Check.townFault("4"), 0);
        });
    }

    private static RopeRooms told(String text) {
        return Check.town(text, 99);
    }

    // ---- promise 6

    private void ropes() {
        e.edge(6, "PULL of a ROPE", () -> {
            RopeRooms r = Check.town(HOUSE);
            pulls(r, 3, 5, 0);
            r.brake(0, false);
            r.brake(1, false);
            pulls(r, 3, 5, 0);
            r.water(1, 5);
            pulls(r, -2, 5, 0);
            r.water(3, 6);
            pulls(r, 4, -1, 0);
            r.water(4, 9);
            pulls(r, -5, -1, 0);
            r.person(2, 2);
            pulls(r, -3, 3, 0);
        });
    }

    private void pulls(RopeRooms r, int first, int second, int third) {
        e.due("rope(0, 8)", Edges.rope(r, 0, 8), first);
        e.due("rope(1, 8)", Edges.rope(r, 1, 8), second);
        e.due("rope(2, 8)", Edges.rope(r, 2, 8), third);
    }

    // ---- promises 10 and 12

    private void restAndScrews() {
        e.edge(10, "A screw is turned", () -> {
            for (boolean on : new boolean[] {true, false}) {
                RopeRooms r = Check.town(HOUSE);
                r.brake(2, on);
                e.due("turn(2, 3)", r.turn(2, 3), 4);
                e.due("the first room went up", r.room(4, 0), 10);
                e.due("the second one down", r.room(5, 0), 8);
                e.due("no MINUTE", r.count(3), 0);
                e.due("the other ROPES stay", r.room(0, 0) + 100 * r.room(2, 0), 804);
                r.minutes(5);
                e.due("no MINUTE turns it back", Edges.rope(r, 2, 2), 4);
            }
        });
        e.edge(10, "X then", () -> {
            RopeRooms r = Check.town(HOUSE);
            e.due("turn(2, -1)", r.turn(2, -1), 0);
            e.due("turn(2, 6)", r.turn(2, 6), 6);
            e.due("turn(2, 1)", r.turn(2, 1), 6);
            e.due("turn(2, -2)", r.turn(2, -2), 4);
            e.due("turn(2, 0)", r.turn(2, 0), 4);
            e.due("rope(2, 2)", Edges.rope(r, 2, 2), 4);
        });
        e.edge(12, "It comes to REST", () -> {
            RopeRooms r = Check.town(HOUSE);
            e.due("rest()", r.rest(), 4);
            e.due("the first room is down", r.room(0, 0), 0);
            e.due("what hangs on it went with it", r.room(2, 0), 4);
            e.due("what hangs on the other went up", r.room(5, 0), 15);
            e.due("TRAVEL", Edges.rope(r, 0, 7), 4);
            e.due("the held one", Edges.rope(r, 1, 7), 0);
            e.due("MINUTES", r.count(3), 4);
            e.due("nothing goes any more", r.minutes(60), 0);
            e.due("rest() again", r.rest(), 0);
            r.brake(1, false);
            e.due("rest() with a BRAKE off", r.rest(), 2);
            e.due("the geared one's first room", r.room(2, 0), 0);
            e.due("its second one", r.room(3, 0), 4);
        });
    }

    // ---- promises 13 to 17

    private void places() {
        e.edge(13, "A GALLERY: its PLACE", () -> {
            RopeRooms r = Check.town(HOUSE);
            int[] heights = {6, 0, 60, 6, 8, 4};
            for (int g = 0; g < 6; g++) {
                e.due("gallery(" + heights[g] + ")", r.gallery(heights[g]), 12 + g);
            }
            for (int g = 0; g < 6; g++) {
                r.beside(12 + g, 2, true);
                e.due("PLACE " + (12 + g) + " is at its own HEIGHT", r.meet(12 + g, 2), heights[g] == 8 ? 1 : 0);
            }
        });
        e.edge(14, "Some are BESIDE one another (told)", () -> {
            RopeRooms r = Check.town("l4,x2;l4,x2;l4,x2");
            for (int one = 0; one < 6; one++) {
                for (int other = 0; other < 6; other++) {
                    e.due("nothing told", r.meet(one, other), one == other ? -1 : 0);
                }
            }
            r.beside(1, 4, true);
            for (int one = 0; one < 6; one++) {
                for (int other = one + 1; other < 6; other++) {
                    boolean told = one == 1 && other == 4;
                    e.due(one + ", " + other, r.meet(one, other), told ? 1 : 0);
                    e.due(other + ", " + one, r.meet(other, one), told ? 1 : 0);
                }
            }
        });
        e.edge(16, "A PERSON at a PLACE: its number", () -> {
            RopeRooms r = Check.town(HOUSE);
            r.gallery(9);
            int[] at = {5, 12, 0, 0, 3, 1, 12, 5};
            for (int i = 0; i < 8; i++) {
                e.due("person(" + (i + 1) + ", " + at[i] + ")", r.person(i + 1, at[i]), i);
            }
            for (int i = 0; i < 8; i++) {
                e.due("where(" + i + ")", r.where(i), at[i]);
            }
            e.due("room 0 BEARS 3 and 4, and what hangs on it 5", r.room(0, 2), 35 + 3 + 4 + 5);
            e.due("room 1 BEARS 6, and what hangs on it 1 and 8", r.room(1, 2), 32 + 6 + 1 + 8);
        });
        e.edge(17, "It STEPS", () -> {
            RopeRooms r = Check.town(HOUSE);
            r.gallery(6);
            r.beside(1, 12, true);
            r.beside(12, 3, true);
            r.person(5, 1);
            r.person(7, 3);
            e.due("step(0, 12)", r.step(0, 12), true);
            e.due("where(0)", r.where(0), 12);
            e.due("where(1)", r.where(1), 3);
            e.due("room 1 is lighter", r.room(1, 2), 32);
            e.due("step(0, 3)", r.step(0, 3), true);
            e.due("room 3 is heavier", r.room(3, 2), 15 + 7 + 5);
            e.due("so is room 0", r.room(0, 2), 35 + 7 + 5);
            e.due("no MINUTE", r.count(3), 0);
        });
    }

    // ---- promises 19 and 20

    private RopeRooms doors() {
        RopeRooms r = Check.town(HOUSE);
        r.gallery(7);
        r.gallery(6);
        r.beside(2, 12, true);
        r.beside(1, 12, true);
        r.beside(1, 13, true);
        return r;
    }

    private void ways() {
        e.edge(19, "WAY: the MINUTE", () -> {
            RopeRooms r = doors();
            e.due("a door that comes", r.way(2, 12), 1);
            e.due("through a GALLERY in one MINUTE", r.way(2, 1), 1);
            e.due("there now", r.way(13, 1), 0);
            e.due("into a room that goes on, out of it later", r.way(13, 12), 1);
            e.due("and on", r.way(13, 2), 1);
            e.due("behind it the door is gone", r.way(2, 13), -1);
            e.due("nothing BESIDE it", r.way(0, 1), -1);
            r.minutes(1);
            e.due("a MINUTE later", r.way(2, 12), 0);
            e.due("too late", r.way(13, 12), -1);
        });
        e.edge(19, "(nobody else stepping)", () -> {
            RopeRooms r = doors();
            r.person(2, 1);
            r.task(0, 13);
            e.due("a PERSON holds the room: nothing goes", r.way(2, 12), -1);
            e.due("it could have stepped", r.where(0), 1);
            e.due("step(0, 13)", r.step(0, 13), true);
            e.due("now it goes", r.way(2, 12), 1);
        });
        e.edge(20, "UNSEEN: the first MINUTE in which they are at one HEIGHT", () -> {
            RopeRooms r = Check.town(HOUSE);
            e.due("one goes up, the other down", r.unseen(2, 1, 60), 1);
            e.due("asked the other way", r.unseen(1, 2, 60), 1);
            e.due("they pass one another between MINUTES", r.unseen(2, 4, 60), -1);
            e.due("now", r.unseen(1, 3, 60), 0);
            e.due("BESIDE or not", r.meet(1, 3), 0);
            r.minutes(1);
            e.due("a MINUTE later", r.unseen(2, 1, 60), 0);
            e.due("behind it no more", r.unseen(1, 3, 60), -1);
        });
    }

    // ---- promises 21 to 23

    private void wishes() {
        e.edge(21, "WANTED heights of some rooms", () -> {
            RopeRooms r = Check.town(HOUSE);
            r.rest();
            e.due("nothing WANTED", r.pails(-1), 0);
            r.want(0, 0);
            e.due("one that is so", r.pails(-1), 0);
            r.want(1, 9);
            e.due("one that can't be", r.pails(-1), HIDDEN);
            r.want(1, 10);
            e.due("told anew", r.pails(-1), 0);
            r.want(5, 3);
            e.due("another one that can't be", r.together(0), 0);
            r.want(5, -1);
            e.due("no more", r.together(0), 1);
        });
        e.edge(23, "TOGETHER (what 0; 1, 0), whom to leave out, as bits (1)", () -> {
            RopeRooms r = Check.town(HOUSE);
            together(r, 1, 0);
            r.want(0, 4);
            r.want(1, 6);
            together(r, 1, 0);
            r.want(1, 7);
            together(r, 0, 1);
            r.want(2, 12);
            r.want(3, 4);
            together(r, 0, 2);
            r.want(4, 200);
            together(r, 0, 2 | 16);
        });
    }

    private void together(RopeRooms r, int can, int out) {
        e.due("together(0)", r.together(0), can);
        e.due("together(1)", r.together(1), out);
    }

    // ---- promises 24 and 25

    private RopeRooms leavers(int hold, int one, int other) {
        RopeRooms r = Check.town("l4,x2,h" + hold);
        r.gallery(2);
        r.beside(0, 12, true);
        r.beside(1, 12, true);
        r.person(one, 0);
        r.person(other, 1);
        return r;
    }

    private void tasks() {
        e.edge(24, "A TASK: how many there are", () -> {
            RopeRooms r = leavers(3, 3, 3);
            for (int n = 1; n <= 6; n++) {
                e.due("task", r.task(n % 2, 12), n);
                e.due("count(6)", r.count(6), n);
            }
            e.due("nobody has stepped", r.where(0) + r.where(1), 1);
        });
        e.edge(25, "ORDERS: how many (what 0), the first (1)", () -> {
            orders(3, 3, 3, 2, 1);
            orders(2, 3, 3, 0, -1);
            orders(2, 2, 3, 1, 10);
            orders(2, 3, 2, 1, 1);
        });
    }

    private void orders(int hold, int one, int other, int many, int first) {
        RopeRooms r = leavers(hold, one, other);
        r.task(0, 12);
        r.task(1, 12);
        e.due("orders(0)", r.orders(0), many);
        e.due("orders(1)", r.orders(1), first);
        e.due("nobody has stepped", r.where(0) + r.where(1), 1);
        e.due("nothing has gone", r.room(0, 0) + 10 * r.count(3), 2);
    }

    // ---- promises 26 to 29

    private void seenAndEven() {
        e.edge(26, "WOKE: heights seen of some rooms", () -> {
            RopeRooms r = Check.town(HOUSE);
            r.woke(0, 3);
            r.woke(4, 8);
            e.due("as it goes by itself", r.slipped(1), 7);
            e.due("a MINUTE too many", r.slipped(2), 0);
            r.woke(4, 9);
            e.due("told anew", r.slipped(1), 0);
            r.woke(0, 2);
            e.due("both anew", r.slipped(2), 7);
            r.woke(0, -1);
            e.due("one alone", r.slipped(2), 7);
            e.due("nothing has gone", r.room(0, 0), 4);
        });
        e.edge(27, "SLIPPED, as bits", () -> {
            RopeRooms r = Check.town(HOUSE);
            r.woke(2, 5);
            e.due("that of the geared one", r.slipped(1), 2);
            r.woke(2, 7);
            e.due("not that one", r.slipped(1), 1 | 4);
            r.woke(2, 8);
            e.due("none", r.slipped(1), 0);
        });
        e.edge(29, "EVEN: the HEIGHT (0), how many (1)", () -> {
            RopeRooms r = Check.town(HOUSE);
            e.due("even(0)", r.even(0), 6);
            e.due("even(1)", r.even(1), 2);
            r.minutes(1);
            e.due("3, 7, 7, 5, 8, 12: even(0)", r.even(0), 7);
            e.due("even(1)", r.even(1), 2);
            r.turn(2, -1);
            e.due("3, 7, 7, 5, 7, 13: even(1)", r.even(1), 3);
        });
    }

    // ---- promises 31 and 32

    private void rules() {
        e.edge(31, "TRIED by a RULE: TRAVEL (0), WANTED so (1)", () -> {
            RopeRooms r = Check.town(HOUSE);
            Check.rule(r, "y:1");
            Check.rule(r, "y:0");
            r.want(2, 2);
            r.want(1, 8);
            e.due("all BRAKES off: two ROPES, two MINUTES", r.tried(0, 2, 0), 4);
            e.due("both WANTED are so", r.tried(0, 2, 1), 2);
            e.due("all on: one ROPE goes", r.tried(1, 2, 0), 2);
            e.due("one WANTED is so", r.tried(1, 2, 1), 1);
            e.due("nothing has gone", r.room(0, 0), 4);
        });
        e.edge(32, "BEST", () -> {
            RopeRooms r = Check.town(HOUSE);
            Check.rule(r, "y:1");
            Check.rule(r, "y:0");
            e.due("nothing WANTED: the least TRAVEL", r.best(2), 1);
            r.want(1, 8);
            e.due("both alike in it: the least TRAVEL", r.best(2), 1);
            r.want(2, 2);
            e.due("more WANTED is so, for all its TRAVEL", r.best(2), 0);
        });
    }

    // ---- promises 33 to 35

    private void feastsAndGroups() {
        e.edge(33, "FEAST", () -> {
            RopeRooms r = Check.town(HOUSE);
            int[] some = {1, 2, 1 | 2, 2 | 4, 2 | 16, 1 | 16, 1 | 32, 4 | 8, 16 | 32, 1 | 2 | 4 | 16};
            int[] due = {0, 0, 5, 5, 0, 5, 5, -1, 3, 5};
            for (int i = 0; i < some.length; i++) {
                e.due("feast(" + some[i] + ")", r.feast(some[i]), due[i]);
            }
        });
        e.edge(34, "GROUPS: how many (place NONE), the GROUP of one", () -> {
            RopeRooms r = doors();
            r.beside(3, 13, true);
            r.beside(4, 12, true);
            r.beside(0, 2, true);
            e.due("0, 2, 5, 1 3 13, 4 12", r.group(-1), 5);
            e.due("group(3)", r.group(3), 2 | 8 | 1 << 13);
            e.due("group(1)", r.group(1), 2 | 8 | 1 << 13);
            e.due("group(12)", r.group(12), 16 | 1 << 12);
            e.due("group(0)", r.group(0), 1);
            r.minutes(1);
            e.due("0, 3, 4, 5, 13, 1 2 12", r.group(-1), 6);
            e.due("group(1)", r.group(1), 2 | 4 | 1 << 12);
        });
        e.edge(35, "OFTEN: how many (0), the first (1)", () -> {
            RopeRooms r = doors();
            r.gallery(10);
            r.beside(1, 14, true);
            often(r, 1, 13, 60, 1, 0);
            often(r, 2, 12, 60, 1, 1);
            often(r, 1, 14, 60, 57, 4);
            often(r, 14, 1, 4, 1, 4);
            often(r, 1, 14, 3, 0, -1);
            often(r, 0, 14, 60, 0, -1);
        });
    }

    private void often(RopeRooms r, int one, int other, int n, int times, int first) {
        e.due("often(" + one + ", " + other + ", " + n + ", 0)", r.often(one, other, n, 0), times);
        e.due("often(" + one + ", " + other + ", " + n + ", 1)", r.often(one, other, n, 1), first);
    }

    // ---- promises 36 to 40

    private void shape() {
        e.edge(36, "CUT: rooms (0), HEIGHTS (1)", () -> {
            RopeRooms r = Check.town(HOUSE);
            int[][] due = {{63, 42}, {12, 14}, {48, 18}};
            for (int p = 0; p < 3; p++) {
                e.due("cut(" + p + ", 0)", r.cut(p, 0), due[p][0]);
                e.due("cut(" + p + ", 1)", r.cut(p, 1), due[p][1]);
            }
            r.minutes(1);
            e.due("a MINUTE later", r.cut(2, 1), 20);
        });
        e.edge(37, "LOAD", () -> {
            RopeRooms r = Check.town(HOUSE);
            int[] due = {-1, 4, -1, -1, 4, 4};
            for (int room = 0; room < 6; room++) {
                e.due("load(" + room + ")", r.load(room), due[room]);
            }
            r.water(1, 3);
            e.due("what is there now counts in another room", r.load(0), 1);
            e.due("in the same one the load is in its stead", r.load(1), 4);
        });
        e.edge(38, "STRAIN of a ROPE; the ROPE with the most (rope NONE)", () -> {
            RopeRooms r = Check.town(HOUSE);
            int[] due = {67, 25, 20};
            for (int p = 0; p < 3; p++) {
                e.due("strain(" + p + ")", r.strain(p), due[p]);
            }
            e.due("strain(-1)", r.strain(-1), 0);
            RopeRooms two = Check.town("l10;l6,r2");
            e.due("strain(1)", two.strain(1), 32);
            e.due("the second has the most", two.strain(-1), 1);
            two.water(0, 13);
            e.due("the first has the most", two.strain(-1), 0);
        });
        e.edge(39, "ABOVE, as bits", () -> {
            RopeRooms r = Check.town(HOUSE);
            int[] due = {62, 52, 32, 52, 4 | 32, 0};
            for (int room = 0; room < 6; room++) {
                e.due("above(" + room + ")", r.above(room), due[room]);
            }
        });
        e.edge(40, "SWAY", () -> {
            RopeRooms r = Check.town("l10,x5,b12,s100;l10,x5,b12;l10,x5,b16,s100");
            e.due("it slips each time", r.sway(0, 3, 7), 7);
            e.due("it never slips", r.sway(1, 3, 7), 0);
            e.due("it goes all the same", r.sway(2, 3, 7), 0);
            r.brake(0, false);
            e.due("a BRAKE that is off does not slip", r.sway(0, 3, 7), 0);
        });
    }

    // ---- the constants

    private void constants() {
        e.edge(43, "None; refused", () -> {
            e.due("NONE", RopeRooms.NONE, -1);
            bare(RopeRooms.NONE, List.of(r -> r.text(0, 1), r -> r.text(1, 1), r -> r.turn(0, 1), r -> r.minutes(1),
                RopeRooms::rest, r -> r.gallery(1), r -> r.meet(0, 1), r -> r.person(1, 0), r -> r.where(0), r -> r.way(0, 1),
                r -> r.together(0), r -> r.task(0, 0), r -> r.orders(0), r -> r.slipped(1), r -> r.rent(0, 1), r -> r.even(0),
                r -> r.keep(0, 1), r -> r.tried(0, 1, 0), r -> r.best(1), r -> r.feast(1), r -> r.group(0), r -> r.cut(0, 0),
                r -> r.load(0), r -> r.strain(0), r -> r.above(0), r -> r.sway(0, 1, 1), RopeRooms::image, RopeRooms::back));
        });
        e.edge(43, "Not told", () -> {
            e.due("HIDDEN", RopeRooms.HIDDEN, HIDDEN);
            bare(RopeRooms.HIDDEN, List.of(r -> r.room(0, 0), r -> r.unseen(0, 1, 1), r -> r.pails(-1),
                r -> r.often(0, 1, 1, 0), r -> r.count(7)));
        });
    }

    private void bare(int due, List<ToIntFunction<RopeRooms>> calls) {
        for (int i = 0; i < calls.size(); i++) {
            e.refuses("call " + i, Edges::bare, due, calls.get(i));
        }
    }
}
