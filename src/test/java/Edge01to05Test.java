import java.util.List;

/** Boundary cases of promises 1 to 5 and of the terms of texts: the TAPE, FAULTS, telling a TOWN and RULES. */
public final class Edge01to05Test {
    private static final int MIN = Edges.MIN;
    private static final int MAX = Edges.MAX;
    private static final int W = 0x20202020;
    private static final String DIGITS = "0123456789";

    private final Edges e;

    private Edge01to05Test(Edges e) {
        this.e = e;
    }

    public static void main(String[] args) {
        Edges e = new Edges("Edge01to05Test");
        tell(e);
        e.run();
    }

    static void tell(Edges e) {
        Edge01to05Test t = new Edge01to05Test(e);
        t.newObject();
        t.feeding();
        t.ending();
        t.sorts();
        t.ropesAndItems();
        t.numbersOfItems();
        t.signs();
        t.faultsOfTowns();
        t.clauses();
        t.depths();
        t.telling();
        t.gone();
        t.goneEverywhere();
    }

    // ---- helpers

    private void town(String text, int due) {
        e.due("fault(0) of '" + text + "'", Check.townFault(text), due);
    }

    private void rule(String text, int due) {
        e.due("fault(1) of '" + text + "'", Check.ruleFault(text), due);
    }

    /** The bytes that can stand behind a text, so that the FAULT, if any, lies behind them. */
    private static String behind(int sort, String text) {
        StringBuilder can = new StringBuilder();
        for (char c = 1; c <= 255; c++) {
            int fault = sort == 0 ? Check.townFault(text + c) : Check.ruleFault(text + c);
            if (fault == -1 || fault > text.length()) {
                can.append(c);
            }
        }
        return can.toString();
    }

    private void behindTown(String text, String due) {
        e.due("bytes behind town '" + text + "'", behind(0, text), due);
    }

    private void behindRule(String text, String due) {
        e.due("bytes behind rule '" + text + "'", behind(1, text), due);
    }

    /** A number's bounds: the last inside and the first outside, on both sides, and what is without it. */
    private void bounds(char letter, int what, int least, int most, int without) {
        for (int v : new int[] {least, most}) {
            RopeRooms r = Check.town("" + letter + v);
            e.due("" + letter + v, told(r, what), v);
        }
        if (least > 0) {
            town("" + letter + (least - 1), 1);
        }
        town("" + letter + (most + 1), ("" + (most + 1)).length());
        e.due("without " + letter, told(Check.town(letter == 'k' ? "l10" : "k0"), what), without);
    }

    /** 0 .. 9 of the ROPE; 10 and 11 the WEIGHTS of its rooms. */
    private static int told(RopeRooms r, int what) {
        return what < 10 ? Edges.rope(r, 0, what) : r.room(what - 10, 1);
    }

    // ---- promise 1

    private void newObject() {
        e.edge(1, "No TOWN", () -> {
            RopeRooms r = new RopeRooms();
            for (int what = 0; what <= 6; what++) {
                e.due("count(" + what + ")", r.count(what), 0);
            }
            e.due("rope(0, 0)", Edges.rope(r, 0, 0), Edges.THROWN);
            e.due("room(0, 0)", r.room(0, 0), -1000000);
            e.due("minutes(1)", r.minutes(1), -1);
            e.due("back()", r.back(), -1);
            e.due("two new objects are alike", String.valueOf(Story.of(r)), String.valueOf(Story.of(new RopeRooms())));
        });
    }

    // ---- promise 2

    private void feeding() {
        e.edge(2, "Twenty bytes more come to the TAPE", () -> {
            RopeRooms r = new RopeRooms();
            e.due("feed", r.feed(W, W, W, W, W), 20);
            e.due("feed again", r.feed(W, W, W, W, W), 40);
            e.due("count(2)", r.count(2), 40);
        });
        e.edge(2, "of each number the highest first", () -> {
            RopeRooms r = new RopeRooms();
            int[] w = Check.words("l4,x3,a7,b8,h9,s1,r2", 0);
            e.due("feed", r.feed(w[0], w[1], w[2], w[3], w[4]), 20);
            e.due("text(0)", r.text(0, 0), 1);
            int[] due = {0, 4, 3, 9, 1, -1, 1, 0, 7 - 8 + 2 * (4 - 6), 2};
            for (int what = 0; what <= 9; what++) {
                e.due("rope(0, " + what + ")", r.rope(0, what), due[what]);
            }
        });
        e.edge(2, "bytes of 0 are left out", () -> {
            String text = "l4,x3,a7,b8,h9,s1,r2";
            for (int out = 0; out < 20; out++) {
                int[] w = Check.words(text.substring(0, out) + (char) 0 + text.substring(out), 0);
                RopeRooms r = new RopeRooms();
                e.due("feed with 0 at " + out, r.feed(w[0], w[1], w[2], w[3], w[4]), 19);
                e.due("the last byte", r.feed('2', 0, 0, 0, 0), 20);
                e.due("the town", r.text(0, 0), 1);
            }
            e.due("nothing but 0", new RopeRooms().feed(0, 0, 0, 0, 0), 0);
            e.due("one byte of five numbers each", new RopeRooms().feed(1, 256, 65536, 1 << 24, -1 << 24), 5);
            e.due("the lowest and the highest byte", new RopeRooms().feed(0x01000001, 0xFF0000FF, 0, 0, 0), 4);
        });
        e.edge(2, "NONE: more than 160", () -> {
            for (int has = 139; has <= 160; has++) {
                for (int more = 0; more <= 20; more++) {
                    RopeRooms r = new RopeRooms();
                    Check.tape(r, " ".repeat(has));
                    int[] w = Check.words(" ".repeat(more), 0);
                    int due = has + more <= 160 ? has + more : -1;
                    e.due(more + " bytes to " + has, r.feed(w[0], w[1], w[2], w[3], w[4]), due);
                    e.due("count(2)", r.count(2), due == -1 ? has : due);
                }
            }
        });
        e.edge(2, "how many it has", () -> {
            for (int one : new int[] {1, 2, 127, 128, 255}) {
                for (int at = 0; at < 20; at++) {
                    int[] w = new int[5];
                    w[at / 4] = one << 8 * (at % 4);
                    RopeRooms r = Edges.full();
                    e.due("a byte of " + one + " to 160, at " + at, r.feed(w[0], w[1], w[2], w[3], w[4]), -1);
                    r.end(159);
                    e.due("a byte of " + one + " to 159, at " + at, r.feed(w[0], w[1], w[2], w[3], w[4]), 160);
                }
            }
        });
        e.edge(2, "What is refused answers as told and changes nothing", () -> {
            e.refuses("one byte to 160", Edges::full, -1, r -> r.feed('l', 0, 0, 0, 0));
            e.refuses("twenty bytes to 160", Edges::full, -1, r -> r.feed(MAX, MIN + 0x010101, -1, W, W));
        });
    }

    // ---- promise 3

    private void ending() {
        e.edge(3, "The TAPE has its first n bytes alone", () -> {
            String text = "l4,x3;l9";
            for (int n = 0; n <= text.length(); n++) {
                RopeRooms r = new RopeRooms();
                Check.tape(r, text);
                e.due("end(" + n + ")", r.end(n), true);
                e.due("count(2)", r.count(2), n);
                e.due("fault(0)", r.fault(0), Check.townFault(text.substring(0, n)));
            }
            RopeRooms empty = new RopeRooms();
            e.due("end(0) of an empty TAPE", empty.end(0), true);
            RopeRooms full = Edges.full();
            e.due("end(160) of a full one", full.end(160), true);
            e.due("count(2)", full.count(2), 160);
            e.due("end(159)", full.end(159), true);
            e.due("room for one byte again", full.feed('l', 0, 0, 0, 0), 160);
            e.due("end(160) again", full.end(160), true);
        });
        e.edge(3, "False: n", () -> {
            for (int n : new int[] {-1, 1, MIN, MAX}) {
                e.refuses("end(" + n + ") of an empty TAPE", Edges::bare, 0, r -> Edges.bit(r.end(n)));
            }
            for (int n : new int[] {-1, 9, 160, MIN, MAX}) {
                e.refuses("end(" + n + ") of 8 bytes", Edges::some, 0, r -> Edges.bit(r.end(n)));
            }
            for (int n : new int[] {-1, 161, MAX}) {
                e.refuses("end(" + n + ") of 160 bytes", Edges::full, 0, r -> Edges.bit(r.end(n)));
            }
        });
    }

    // ---- promise 4

    private void sorts() {
        e.edge(4, "The FAULT of the TAPE as a TOWN (0), a RULE (1)", () -> {
            town("y:1", 0);
            rule("y:1", -1);
            town("l4", -1);
            rule("l4", 0);
        });
        e.edge(4, "NONE: none", () -> {
            town("l4", -1);
            rule("y:1", -1);
            RopeRooms r = new RopeRooms();
            Check.tape(r, "l4");
            e.due("fault(0) twice", r.fault(0) + r.fault(0), -2);
            e.due("the TAPE stays", r.count(2), 2);
        });
        e.refused(4, "-2: no such sort", Edges::some, -2,
            List.of(r -> r.fault(2), r -> r.fault(-1), r -> r.fault(MIN), r -> r.fault(MAX)));
    }

    private void ropesAndItems() {
        e.edge(4, "ROPES with ; between (1 .. 6)", () -> {
            String text = "l2";
            town("", 0);
            for (int n = 1; n <= 6; n++) {
                e.due(n + " ropes", Check.town(text).count(0), n);
                town(text, -1);
                town(text + ";", n == 6 ? text.length() : text.length() + 1);
                text += ";l2";
            }
            town(text, "l2;l2;l2;l2;l2;l2".length());
        });
        e.edge(4, "ITEMS with , between, one at least", () -> {
            town(";l4", 0);
            town("l4;;l4", 3);
            town(",l4", 0);
            town("l4,", 3);
            town("l4,;l4", 3);
            town("l4,,x1", 3);
            town("l4x1", 2);
            town("l4", -1);
            town("l4,x1", -1);
            behindTown("", " abhklrsx");
            behindTown("l4", " ,;");
            behindTown("l4;", " abhklrsux");
            behindTown("l4,", " abhkrsx");
            behindTown("l4 ", " ,;");
        });
        e.edge(4, "a letter, each once at most in a ROPE", () -> {
            town("k0,l10,x0,a10,b10,h5,s0,r0", -1);
            town("l2;k0,l10,x0,a10,b10,h5,s0,r0,u1", -1);
            behindTown("k0,l10,x0,a10,b10,h5,s0,r0,", " ");
            behindTown("l2;k0,l10,x0,a10,b10,h5,s0,r0,", " u");
            behindTown("l2;k0,l10,x0,a10,b10,h5,s0,r0,u1,", " ");
            behindTown("l2;u0,r0,s0,h5,b10,a10,", " klx");
        });
    }

    private void numbersOfItems() {
        e.edge(4, "k KIND (0 plain, 1 geared, 2 screw; 0 without)", () -> {
            bounds('k', 0, 0, 2, 0);
            e.due("k1", Check.town("k1").rope(0, 0), 1);
        });
        e.edge(4, "l LENGTH (2 .. 20; 10)", () -> bounds('l', 1, 2, 20, 10));
        e.edge(4, "x where its first room is at first (0 .. LENGTH; 0)", () -> {
            bounds('x', 2, 0, 10, 0);
            for (int l = 2; l <= 20; l += 6) {
                e.due("x as the LENGTH", Check.town("l" + l + ",x" + l).rope(0, 2), l);
                String beyond = "l" + l + ",x" + (l + 1);
                town(beyond, beyond.length() - 1);
            }
        });
        e.edge(4, "a WEIGHT of the first room (1 .. 99; 10)", () -> bounds('a', 10, 1, 99, 10));
        e.edge(4, "b of the second (1 .. 99; 10)", () -> bounds('b', 11, 1, 99, 10));
        e.edge(4, "h HOLD (0 .. 99; 5)", () -> bounds('h', 3, 0, 99, 5));
        e.edge(4, "s SLIP (0 .. 100; 0)", () -> bounds('s', 4, 0, 100, 0));
        e.edge(4, "r how heavy the rope is (0 .. 9; 0)", () -> bounds('r', 9, 0, 9, 0));
        e.edge(4, "u on which room it hangs (0 .. 2 times its own number less 1; none without)", () -> {
            String ahead = "";
            for (int p = 0; p < 6; p++) {
                e.due("none without", Check.town(ahead + "l4").rope(p, 5), -1);
                for (int u = 0; u <= 2 * p + 1; u++) {
                    String text = ahead + "u" + u;
                    if (p > 0 && u <= 2 * p - 1) {
                        e.due(text, Check.town(text).rope(p, 5), u);
                    } else {
                        town(text, p == 0 ? 0 : text.length() - 1);
                    }
                }
                town(ahead + "u999", p == 0 ? 0 : ahead.length() + 3);
                ahead += "l4;";
            }
        });
        e.edge(4, "The ROOMS of ROPE p are 2 p and 2 p and 1", () -> {
            RopeRooms r = Check.town("a1,b2;a3,b4;a5,b6;a7,b8;a9,b11;a12,b13");
            int[] due = {1, 2, 3, 4, 5, 6, 7, 8, 9, 11, 12, 13};
            for (int room = 0; room < 12; room++) {
                e.due("weight of room " + room, r.room(room, 1), due[room]);
            }
            e.due("room 12", r.room(12, 1), -1000000);
        });
    }

    private void signs() {
        e.edge(4, "Numbers have one to three digits", () -> {
            town("l", 1);
            town("l,x1", 1);
            town("l4", -1);
            town("l04", -1);
            town("l004", -1);
            town("l0004", 4);
            e.due("x000", Check.town("x000").rope(0, 2), 0);
            e.due("h099", Check.town("h099").rope(0, 3), 99);
            e.due("s100", Check.town("s100").rope(0, 4), 100);
            behindTown("h", " " + DIGITS);
            behindTown("h0", " ," + DIGITS + ";");
            behindTown("h00", " ," + DIGITS + ";");
            behindTown("h000", " ,;");
        });
        e.edge(4, "Blanks (32) may stand between all signs, not within numbers", () -> {
            String text = "l12,x4;k1,l8,u1";
            boolean[] within = new boolean[text.length() + 1];
            within[2] = true;
            for (int at = 0; at <= text.length(); at++) {
                String blank = text.substring(0, at) + " " + text.substring(at);
                // l1 is no LENGTH, so that the number's last digit is wrong ahead of the blank.
                town(blank, within[at] ? 1 : -1);
                String tab = text.substring(0, at) + "\t" + text.substring(at);
                town(tab, within[at] ? 1 : at);
            }
            town("h1 2", 3);
            town("h12 3", 4);
            e.due("many blanks", Check.town("  l  12 ,  x  4  ;  k 1  ").rope(0, 1), 12);
            town("  ", 2);
            town("l4\u00A0", 2);
        });
    }

    private void faultsOfTowns() {
        e.edge(4, "FAULT: the first byte at which no TOWN can go on", () -> {
            String[] texts = {
                "l12,x4;k1,l8,u1;k2,q", "l4;l4;l4;l4;l4;l4;l4", "a1,b2,h3,s4,r5,x6,l7,k0,a1", "l20,x20;u1,u1", "h99 9",
                "l4:x1", "k1 , l6 , x 4 ; ; l4", "r9,r"
            };
            for (String text : texts) {
                int fault = Check.townFault(text);
                e.due("a fault in '" + text + "'", fault >= 0, true);
                for (int n = 0; n <= fault && n <= text.length(); n++) {
                    int f = Check.townFault(text.substring(0, n));
                    // Ahead of the FAULT a text is whole, or ends too early, or its last number wants one digit more.
                    e.due("'" + text.substring(0, n) + "' can go on", f == -1 || f == n || f == n - 1, true);
                }
                for (int n = fault + 1; n <= text.length(); n++) {
                    e.due("the first " + n + " of '" + text + "'", Check.townFault(text.substring(0, n)), fault);
                }
            }
            town("L4", 0);
            town("\u00FFl4", 0);
            town("l4\u0001", 2);
        });
        e.edge(4, "the length, if it ends too early", () -> {
            for (String text : new String[] {"", " ", "l", "l ", "l4,", "l4, ", "l4;", "l4; ", "l4;x", "l4,x1;l4,h"}) {
                town(text, text.length());
            }
            town(" ".repeat(160), 160);
            town("l4," + " ".repeat(157), 160);
            town("l4" + " ".repeat(157) + ";", 160);
            town("l4" + " ".repeat(157) + "l", 159);
            town("l4" + " ".repeat(158), -1);
        });
        e.edge(4, "a number out of bounds is wrong at its last digit", () -> {
            town("l1", 1);
            town("l21", 2);
            town("l210", 3);
            town("l001", 3);
            town("k3", 1);
            town("k003", 3);
            town("k20", 2);
            town("a0", 1);
            town("a000", 3);
            town("b100", 3);
            town("h999", 3);
            town("s101,", 3);
            town("r10;l4", 2);
            town(" r 10", 4);
            town("l4;u2", 4);
            town("l4;u20", 5);
        });
        e.edge(4, "x by the LENGTH told so far", () -> {
            town("x10", -1);
            town("x11", 2);
            town("x11,l20", 2);
            town("l11,x11", -1);
            town("l9,x10", 5);
            town("l9,x9", -1);
            town("l20;x11", 6);
        });
        e.edge(4, "LENGTH by the x told so far", () -> {
            town("x5,l4", 4);
            town("x5,l5", -1);
            town("x10,l9", 5);
            town("x10,l10", -1);
            town("x3,l2;l2", 4);
            town("x3,l4;l2", -1);
        });
        e.edge(4, "u on ROPE 0 at its letter", () -> {
            town("u", 0);
            town("u0", 0);
            town(" u0", 1);
            town("l4,u0", 3);
            town("l4;u0", -1);
        });
        e.edge(4, "a fourth digit itself", () -> {
            town("l0010", 4);
            town("l9999", 4);
            town("h0000", 4);
            town("h00 0", 4);
            town("s1000", 4);
            town("l4;u0001", 7);
        });
        e.edge(4, "a letter that was there in that ROPE at it", () -> {
            for (char c : "klxabhsr".toCharArray()) {
                int v = c == 'l' ? 4 : 1;
                town(c + "" + v + "," + c + v, 3);
                town(c + "" + v + "," + c, 3);
            }
            town("l4;u0,u0", 6);
            town("l4;l4", -1);
            town("a1,b1,a1", 6);
        });
        e.edge(4, "a geared ROPE with an odd LENGTH or x at its end (the ; or the length)", () -> {
            town("k1,l5", 5);
            town("k1,l5 ", 6);
            town("k1,l5;l4", 5);
            town("k1,l5 ;l4", 6);
            town("l5,k1", 5);
            town("x1,k1", 5);
            town("x1,k1;q", 5);
            town("k1,x3,l7", 8);
            town("k1,l4,x4", -1);
            town("k1,l2,x0", -1);
            town("k0,l5,x3", -1);
            town("k2,l5,x3", -1);
            town("l4;k1,l20,x20", -1);
            town("l4;k1,l20,x19", 13);
            town("k1,l5,", 6);
            town("k1,l5,l6", 6);
        });
        e.edge(4, "a sixth ; at it", () -> {
            town("l2;l2;l2;l2;l2;l2;", 17);
            town("l2;l2;l2;l2;l2;l2;l2", 17);
            town("l2;l2;l2;l2;l2;l2  ;l2", 19);
            town("l2;l2;l2;l2;l2;l2", -1);
            behindTown("l2;l2;l2;l2;l2;l2", " ,0");
        });
    }

    // ---- promise 4, RULES

    private void clauses() {
        e.edge(4, "CLAUSES with ; between, one at least", () -> {
            rule("", 0);
            rule("  ", 2);
            rule(";", 0);
            rule("y:1", -1);
            rule("y:1;", 4);
            rule("y:1;;y:1", 4);
            rule("y:1;y:2", -1);
            rule("y:1;".repeat(39) + "y:1 ", -1);
            rule("y:1;".repeat(40), 160);
            behindRule("", " y");
            behindRule("y:1;", " y");
        });
        e.edge(4, "y, : , perhaps CONDITION ?, then SUM", () -> {
            behindRule("y", " :");
            behindRule("y:", " !(" + DIGITS + "[dhilptx");
            behindRule("y:p", " *+-/;<=>");
            behindRule("y:p=1?", " " + DIGITS + "[dhilptx");
            behindRule("y:p=1?1", " *+-/" + DIGITS + ";");
            rule("y:p=1?", 6);
            rule("y:?1", 2);
            rule("y:p?1", 3);
            rule("y:p=1?2?3", 7);
        });
        e.edge(4, "CONDITION: TRUTHS with | between", () -> {
            behindRule("y:p=1", " &*+-/" + DIGITS + "?|");
            behindRule("y:p=1|", " !(" + DIGITS + "[dhilptx");
            rule("y:p=1|", 6);
            rule("y:p=1|?1", 6);
            rule("y:p=1||x=1?1", 6);
        });
        e.edge(4, "TRUTH: UNITS with & between", () -> {
            behindRule("y:p=1&", " !(" + DIGITS + "[dhilptx");
            rule("y:p=1&", 6);
            rule("y:p=1&?1", 6);
            rule("y:p=1&x=1|l=1&h=1?1", -1);
        });
        e.edge(4, "UNIT: ! UNIT, ( CONDITION ), or SUM, one of = < >, SUM", () -> {
            behindRule("y:!", " !(" + DIGITS + "[dhilptx");
            behindRule("y:!p", " *+-/<=>");
            behindRule("y:(", " !(" + DIGITS + "[dhilptx");
            behindRule("y:(p", " *+-/<=>");
            behindRule("y:(p=x", " &)*+-/|");
            behindRule("y:(p=x)", " &?|");
            behindRule("y:p=", " " + DIGITS + "[dhilptx");
            behindRule("y:p=x", " &*+-/?|");
            rule("y:p==1?1", 4);
            rule("y:p<>1?1", 4);
            rule("y:p=1=1?1", 5);
        });
        e.edge(4, "SUM: TERMS with + or - between", () -> {
            rule("y:-1", 2);
            rule("y:+1", 2);
            rule("y:1+", 4);
            rule("y:1--1", 4);
            behindRule("y:1+", " " + DIGITS + "[dhilptx");
        });
        e.edge(4, "TERM: ATOMS with * or / between", () -> {
            rule("y:*1", 2);
            rule("y:1*", 4);
            rule("y:1*/1", 4);
            behindRule("y:1/", " " + DIGITS + "[dhilptx");
        });
        e.edge(4, "ATOM: a number (1 to 4 digits), a letter (p x l h d t i), [ SUM ]", () -> {
            rule("y:0", -1);
            rule("y:0000", -1);
            rule("y:9999", -1);
            behindRule("y:999", " *+-/" + DIGITS + ";<=>");
            behindRule("y:9999", " *+-/;<=>");
            behindRule("y:[", " " + DIGITS + "[dhilptx");
            behindRule("y:[x", " *+-/]");
            behindRule("y:[x]", " *+-/;<=>");
            rule("y:[]", 3);
            rule("y:[1", 4);
            rule("y:px", 3);
            rule("y:1p", 3);
            rule("y:p1", 3);
            rule("y:1 1", 4);
        });
        e.edge(4, "(A CLAUSE that goes on with ! or ( behind its : has a CONDITION.)", () -> {
            rule("y:(1)", 4);
            rule("y:(1=1)", 7);
            rule("y:(1=1);y:1", 7);
            rule("y:(1=1)+1", 7);
            rule("y:(1=1)?1", -1);
            rule("y:!1=1", 6);
            rule("y:!1=1;y:1", 6);
            rule("y:!1=1?1", -1);
            rule("y:[1]", -1);
            rule("y:[1]=1?1", -1);
            rule("y:p=1?(1=1)?1", 6);
            rule("y:p=1?!1=1?1", 6);
        });
    }

    private void depths() {
        e.edge(4, "At most six of ( [ ! within one another", () -> {
            rule("y:[[[[[[1]]]]]]", -1);
            rule("y:((((((1=1))))))?1", -1);
            rule("y:!!!!!!1=1?1", -1);
            rule("y:!(!(![1]=1))?1", -1);
            rule("y:!(!([[1]]=[[1]]))?[[[[[[1]]]]]]+[[[[[[2]]]]]]", -1);
            rule("y:((1=1)|(1=1)|(1=1)|(1=1)|(1=1)|(1=1)|(1=1)|(1=1))?1", -1);
            behindRule("y:!!!!!", " !(" + DIGITS + "[dhilptx");
            behindRule("y:!!!!!!", " " + DIGITS + "dhilptx");
            behindRule("y:((((((", " " + DIGITS + "dhilptx");
            behindRule("y:[[[[[[", " " + DIGITS + "dhilptx");
            behindRule("y:!!!!!!p=", " " + DIGITS + "dhilptx");
            behindRule("y:!!!!!!p=1&", " !(" + DIGITS + "[dhilptx");
            behindRule("y:1=1?", " " + DIGITS + "[dhilptx");
        });
        e.edge(4, "FAULT likewise; a fifth digit, a seventh of these are such", () -> {
            rule("y:00000", 6);
            rule("y:99999", 6);
            rule("y:1+12345", 8);
            rule("y:[[[[[[[1]]]]]]]", 8);
            rule("y:(((((((1=1)))))))?1", 8);
            rule("y:!!!!!!!1=1?1", 8);
            rule("y:!(!(!([1]=1)))?1", 8);
            rule("y:((((((1=[1]))))))?1", 10);
            rule("y:!!!!!!1=[1]?1", 10);
            rule("y:1=1?[[[[[[[1]]]]]]]", 12);
            rule("y:1=1&(((((([1]=1))))))?1", 12);
            String text = "y:!(p+[x*3]=t|l<h)&d>0?[i+1]/2-99990";
            for (int n = 0; n <= 35; n++) {
                int f = Check.ruleFault(text.substring(0, n));
                e.due("the first " + n + " of it end too early, or are whole", f == n || f == -1, true);
            }
            rule(text, 35);
            rule("y:1" + " ".repeat(157), -1);
            rule("y:" + " ".repeat(158), 160);
        });
    }

    // ---- promise 5

    private void telling() {
        e.edge(5, "The TAPE (empty then) is the TOWN", () -> {
            RopeRooms r = new RopeRooms();
            Check.tape(r, "l4" + " ".repeat(158));
            e.due("text(0) of 160 bytes", r.text(0, 0), 1);
            e.due("count(2)", r.count(2), 0);
            e.due("again", r.text(0, 0), -1);
            Check.tape(r, "y:1" + " ".repeat(157));
            e.due("text(1) of 160 bytes", r.text(1, 0), 0);
            e.due("count(2)", r.count(2), 0);
            e.due("again", r.text(1, 0), -1);
            String full = "k1,l20,x20,a99,b99,h99,s100,r9;l2,h0;l2,u3;l2,u5;l2,u7;u9,k2,l20,x20,a1,b1,h0,s0,r0";
            Check.tape(r, full + " ".repeat(160 - full.length()));
            e.due("six ropes in 160 bytes", r.text(0, 0), 6);
            e.due("the last one's LENGTH", r.rope(5, 1), 20);
            e.due("the first one's SLIP", r.rope(0, 4), 100);
        });
        e.edge(5, "how many ROPES", () -> {
            e.due("one", Check.town("l4").count(0), 1);
            e.due("six", Check.town("l4;l4;l4;l4;l4;l4").count(0), 6);
        });
        e.edge(5, "a RULE: its number", () -> {
            RopeRooms r = new RopeRooms();
            for (int i = 0; i < 4; i++) {
                e.due("rule " + i, Check.rule(r, "y:" + i), i);
            }
            e.due("count(1)", r.count(1), 4);
        });
        e.edge(5, "NONE: a FAULT", () -> {
            for (String text : new String[] {"", "l", "y:", "l21", "y:1;", "q"}) {
                for (int sort = 0; sort <= 1; sort++) {
                    int s = sort;
                    e.refuses("text(" + s + ") of '" + text + "'", () -> with(text), -1, r -> r.text(s, 7));
                }
            }
            RopeRooms later = new RopeRooms();
            for (String text : new String[] {"y:1;", "y:1;y:(", "y:9999*9999;y:1=1?", "y:1;l4"}) {
                e.due("'" + text + "' is no RULE", Check.rule(later, text), -1);
                e.due("nor by fault", later.fault(1) >= 0, true);
            }
            e.due("a RULE behind them", Check.rule(later, "y:0"), 0);
            Check.tape(later, "l4,x2,b11");
            later.text(0, 0);
            e.due("nothing of them is in it", later.keep(0, 1), 0);
            e.refuses("a TOWN is no RULE", () -> with("l4"), -1, r -> r.text(1, 7));
            e.refuses("a RULE is no TOWN", () -> with("y:1"), -1, r -> r.text(0, 7));
            e.refuses("without a TOWN", Edges::bare, -1, r -> r.text(0, 7));
        });
        e.refused(5, "NONE: no such sort", Edges::some, -1,
            List.of(r -> r.text(2, 7), r -> r.text(-1, 7), r -> r.text(MIN, 7), r -> r.text(MAX, 7)));
        e.edge(5, "NONE: there are four RULES", () -> {
            e.refuses("a fifth", () -> ruledWith("y:1"), -1, r -> r.text(1, 7));
            e.refuses("a faulty fifth", () -> ruledWith("y:"), -1, r -> r.text(1, 7));
            RopeRooms r = ruledWith("l4");
            e.due("a TOWN still", r.text(0, 0), 1);
            e.due("RULES still", r.count(1), 4);
        });
        e.edge(5, "RULES (4 at most) for a keeper are TEXTS", () -> {
            RopeRooms r = Edges.full();
            e.due("four", r.count(1), 4);
            e.due("keep(3, 1)", r.keep(3, 1) >= 0, true);
            e.due("keep(4, 1)", r.keep(4, 1), -1);
        });
    }

    private static RopeRooms with(String text) {
        RopeRooms r = Edges.some();
        Check.tape(r, text);
        return r;
    }

    private static RopeRooms ruledWith(String text) {
        RopeRooms r = Edges.full();
        Check.tape(r, text);
        return r;
    }

    /** Each thing by itself: with a new TOWN it is as if it had never been. */
    private void gone() {
        e.edge(5, "(all that was of another one is gone but RULES)", () -> {
            RopeRooms r = anew(Edges.full());
            e.due("RULES", r.count(1), 4);
            e.due("MINUTES", r.count(3), 0);
            e.due("GALLERIES", r.count(4), 0);
            e.due("PERSONS", r.count(5), 0);
            e.due("TASKS", r.count(6), 0);
            e.due("nobody", r.where(0), -1);
            e.due("no PLACE", r.group(12), -1);
            e.due("nothing WANTED", r.together(1), 0);
            e.due("nothing SEEN", r.slipped(1), 3);
            e.due("no IMAGE", r.back(), -1);
            e.due("no TASKS", r.orders(0), -1);
            RopeRooms other = new RopeRooms();
            for (int i = 0; i < 4; i++) {
                Check.rule(other, "y:p>" + i + "&t<3?1;y:x-i");
            }
            e.due("as told to a new object", String.valueOf(Story.of(anew(Edges.full()))),
                String.valueOf(Story.of(anew(other))));
            RopeRooms same = Check.town("l8,x3,b11,s40;l8,x3", 42);
            same.brake(0, false);
            same.water(1, 9);
            same.minutes(3);
            same.beside(2, 0, true);
            Check.tape(same, "l8,x3,b11,s40;l8,x3");
            e.due("the same TOWN again", same.text(0, 42), 2);
            e.due("X", same.rope(0, 2), 3);
            e.due("TRAVEL", same.rope(0, 7), 0);
            e.due("BRAKE", same.rope(0, 6), 1);
            e.due("WATER", same.room(1, 3), 0);
            e.due("BESIDE", same.meet(2, 0), 0);
            RopeRooms fresh = Check.town("l8,x3,b11,s40;l8,x3", 42);
            e.due("draws", same.minutes(9), fresh.minutes(9));
            e.due("X then", same.rope(0, 2), fresh.rope(0, 2));
        });
    }

    private void goneEverywhere() {
        e.edge(5, "all that was of another one is gone", () -> {
            RopeRooms r = Edges.full();
            String level = "l4,x2;l4,x2;l4,x2;l4,x2;l4,x2;l4,x2";
            for (int room = 0; room < 12; room++) {
                r.water(room, 99);
                r.want(room, 200);
                r.woke(room, 200);
            }
            for (int one = 0; one < 18; one++) {
                for (int other = one + 1; other < 18; other++) {
                    r.beside(one, other, true);
                }
            }
            for (int p = 0; p < 6; p++) {
                r.brake(p, false);
            }
            Check.tape(r, level);
            r.text(0, 0);
            for (int g = 0; g < 6; g++) {
                r.gallery(2);
            }
            for (int room = 0; room < 12; room++) {
                e.due("WATER of " + room, r.room(room, 3), 0);
                e.due("BEARS of " + room, r.room(room, 2), 10);
            }
            for (int p = 0; p < 6; p++) {
                e.due("BRAKE of " + p, r.rope(p, 6), 1);
            }
            for (int place = 0; place < 18; place++) {
                e.due("BESIDE " + place, r.group(place), 1 << place);
            }
            e.due("WANTED", r.together(1), 0);
            e.due("SEEN", r.slipped(1), 63);
        });
        e.edge(5, "0 without", () -> {
            // What another text told must not stay for a ROPE of which nothing is told.
            String all = "k2,l4,x2,a1,b2,h3,s4,r5";
            String last = ";u0,k2,l4,x2,a1,b2,h3,s4,r5";
            RopeRooms r = new RopeRooms();
            for (int round = 0; round < 4; round++) {
                Check.tape(r, all + last + last);
                r.fault(0);
                Check.tape(r, all + last + ";q");
                r.text(0, 0);
                Check.tape(r, round % 2 == 0 ? "l10;k0;h5" : "x0;a10;b10");
                e.due("three ROPES", r.text(0, 0), 3);
                int[] due = {0, 10, 0, 5, 0, -1, 1, 0, 0, 0};
                for (int p = 0; p < 3; p++) {
                    for (int what = 0; what <= 9; what++) {
                        e.due("rope(" + p + ", " + what + ")", r.rope(p, what), due[what]);
                    }
                    e.due("weights", r.room(2 * p, 1) * 100 + r.room(2 * p + 1, 1), 1010);
                }
                Check.tape(r, all + last + last);
                r.text(0, 0);
            }
        });
    }

    private static RopeRooms anew(RopeRooms r) {
        Check.tape(r, "l8,x3,s40,b11;l6,x6");
        r.text(0, 9);
        return r;
    }
}
