/** What is refused, and what only asks, changes nothing: all that can be read stays as it was. */
public final class RefusedTest {
    private static final Check CHECK = new Check("RefusedTest");
    private static final int MIN = Integer.MIN_VALUE;
    private static final int MAX = Integer.MAX_VALUE;

    public static void main(String[] args) {
        RopeRooms r = rich();
        String before = all(r);
        String future = future();
        refuse(r);
        CHECK.due("refused calls change nothing", all(r).equals(before), true);
        ask(r);
        CHECK.due("asking changes nothing", all(r).equals(before), true);
        CHECK.due("nor what comes later", goOn(r).equals(future), true);
        CHECK.finish();
    }

    private static RopeRooms rich() {
        RopeRooms r = Check.town("l8,x3,b11,s40;k1,l8,x2,a9,b20,u1;k2,l5,x1;l7,x3,a17,r1,s20,u3", 42);
        for (int g = 0; g < 6; g++) {
            r.gallery(g);
        }
        for (int one = 0; one < 18; one++) {
            r.beside(one, (one + 1) % 18, true);
            r.beside(one, (one + 5) % 18, true);
        }
        for (int i = 0; i < 8; i++) {
            r.person(1 + i, i);
        }
        for (int i = 0; i < 6; i++) {
            r.task(i, i + 1);
        }
        for (int i = 0; i < 4; i++) {
            Check.rule(r, "y:p>" + i + "&t<3?1;y:x-i");
        }
        r.water(2, 5);
        r.want(0, 8);
        r.want(3, 5);
        r.woke(1, 4);
        r.minutes(2);
        r.image();
        r.minutes(1);
        Check.tape(r, "l4;l99");
        return r;
    }

    private static String future() {
        return goOn(rich());
    }

    /** What is to come shows the draws and the IMAGE. */
    private static String goOn(RopeRooms r) {
        StringBuilder s = new StringBuilder();
        s.append(r.minutes(9)).append(all(r)).append(r.back()).append(all(r)).append(r.minutes(7)).append(all(r));
        return s.toString();
    }

    private static String all(RopeRooms r) {
        StringBuilder s = new StringBuilder();
        for (int p = 0; p < r.count(0); p++) {
            for (int what = 0; what <= 9; what++) {
                s.append(r.rope(p, what)).append(' ');
            }
        }
        for (int room = 0; room < 2 * r.count(0); room++) {
            for (int what = 0; what <= 3; what++) {
                s.append(r.room(room, what)).append(' ');
            }
        }
        for (int one = 0; one < 18; one++) {
            s.append(r.where(one)).append(' ').append(r.group(one)).append(' ');
            for (int other = 0; other < 18; other++) {
                s.append(r.often(one, other, 20, 0)).append(' ');
            }
        }
        for (int what = 0; what < 7; what++) {
            s.append(r.count(what)).append(' ');
        }
        s.append(r.together(0)).append(' ').append(r.together(1)).append(' ').append(r.pails(-1)).append(' ');
        s.append(r.slipped(3)).append(' ').append(r.orders(0)).append(' ').append(r.orders(1)).append(' ');
        s.append(r.best(5)).append(' ').append(r.fault(0)).append(' ').append(r.fault(1));
        return s.toString();
    }

    private static void none(String call, int got) {
        CHECK.due(call, got, -1);
    }

    private static void no(String call, boolean got) {
        CHECK.due(call, got, false);
    }

    private static void refuse(RopeRooms r) {
        int w = 0x20202020;
        for (int i = 0; i < 8; i++) {
            r.feed(w, w, w, w, w);
        }
        none("feed", r.feed(w, w, w, w, w));
        r.end(6);
        no("end", r.end(7));
        none("text(0)", r.text(0, 9));
        none("text(1)", r.text(1, 9));
        none("text(7)", r.text(7, 9));
        for (int wrong : new int[] {MIN, -1, 8, 9, 11, 18, 100, MAX}) {
            no("brake", r.brake(wrong, false));
            no("water", r.water(wrong, 3));
            none("turn", r.turn(wrong, 1));
            no("beside", r.beside(wrong, 0, true));
            no("beside", r.beside(0, wrong, false));
            none("meet", r.meet(wrong, 0));
            none("person", r.person(1, wrong));
            no("step", r.step(wrong, 0));
            no("step", r.step(0, wrong));
            none("task", r.task(wrong, 0));
            no("want", r.want(wrong, 3));
            no("woke", r.woke(wrong, 3));
            none("keep", r.keep(wrong, 3));
        }
        for (int wrong : new int[] {MIN, -1, 0, 61, 100, MAX}) {
            none("minutes", r.minutes(wrong));
            none("keep", r.keep(0, wrong));
        }
        no("water(0, 100)", r.water(0, 100));
        no("water(0, -1)", r.water(0, -1));
        none("turn(2, 21)", r.turn(2, 21));
        none("turn(0, 1)", r.turn(0, 1));
        none("gallery", r.gallery(3));
        none("person", r.person(3, 0));
        none("task", r.task(0, 0));
        no("want(0, 201)", r.want(0, 201));
        no("want(0, -2)", r.want(0, -2));
        no("woke(0, 201)", r.woke(0, 201));
        no("beside(3, 3)", r.beside(3, 3, false));
        no("step where it is", r.step(0, r.where(0)));
    }

    private static void ask(RopeRooms r) {
        int n = 0;
        for (int i = 0; i < 8; i++) {
            n += r.way(i, 12) + r.unseen(i, 7, 60) + r.pails(i) + r.rent(i, 4) + r.load(i) + r.above(i);
            n += r.often(i, 13, 60, 2) + r.group(i) + r.feast(1 + 5 * i);
        }
        for (int p = 0; p < 4; p++) {
            n += r.cut(p, 0) + r.cut(p, 1) + r.strain(p) + r.sway(p, 60, 20);
            n += r.tried(p, 60, 0) + r.tried(p, 30, 1) + r.slipped(60);
        }
        n += r.strain(-1) + r.even(0) + r.even(1) + r.best(60) + r.orders(0) + r.orders(1) + r.together(1);
        n += r.fault(0) + r.fault(1) + r.fault(2);
        CHECK.due("asked", n != 0, true);
    }
}
