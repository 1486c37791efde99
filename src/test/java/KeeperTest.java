/** Promises 30 to 32: RULES, how they are worked, KEPT, TRIED and BEST. */
public final class KeeperTest {
    private static final Check CHECK = new Check("KeeperTest");

    public static void main(String[] args) {
        worths();
        lettersOfARope();
        letterT();
        keeping();
        trying();
        best();
        CHECK.finish();
    }

    /** Whether the WORTH of a rule is above 0, by the BRAKE that it sets on a rope of x 3, l 9, h 7, PULL 4. */
    private static void worth(String rule, boolean above) {
        RopeRooms r = Check.town("l9,x3,a14,h7");
        CHECK.due("rule " + rule, Check.rule(r, rule), 0);
        CHECK.due("keep by " + rule, r.keep(0, 1), above ? 1 : 0);
        CHECK.due("brake by " + rule, r.rope(0, 6), above ? 0 : 1);
    }

    /** A SUM is just this number: neither more nor less. */
    private static void equal(String sum, String number) {
        worth("y:" + sum + "=" + number + "?1", true);
        worth("y:" + sum + ">" + number + "|" + sum + "<" + number + "?1", false);
    }

    private static void worths() {
        worth("y:1", true);
        worth("y:0", false);
        worth("y:0-1", false);
        worth("y:9999", true);
        equal("1+2*3", "7");
        equal("2*3+1", "7");
        equal("[1+2]*3", "9");
        equal("9-3-2", "4");
        equal("9-[3-2]", "8");
        equal("7/2", "3");
        equal("[0-7]/2", "0-3");
        equal("7/[0-2]", "0-3");
        equal("7/0", "0");
        equal("[0-7]/0+2", "2");
        equal("100/7*7", "98");
        equal("2*7/4", "3");
        equal("1-2+3", "2");
        equal("1+2-3*4/5+6", "7");
        equal("9999*9999", "1000*1000");
        equal("9999*9999-9999*9999", "0");
        equal("9999*9999/1000", "1000");
        equal("0-9999*9999-5", "0-1000*1000");
        equal("1000*1000+1-1", "1000*1000-1");
        equal("999*1000+9999-9999", "1000*1000-9999");
        equal("[0-1]*1000*1001+1", "1-1000*1000");
        equal("007", "7");
        worth("y:1=1?1", true);
        worth("y:1=2?1", false);
        worth("y:1<2?1", true);
        worth("y:2<2?1", false);
        worth("y:2>1?1", true);
        worth("y:2>2?1", false);
        worth("y:!1=2?1", true);
        worth("y:!!1=2?1", false);
        worth("y:!1=1|1=1?1", true);
        worth("y:!(1=1|1=1)?1", false);
        worth("y:1=1|1=2&1=2?1", true);
        worth("y:(1=1|1=2)&1=2?1", false);
        worth("y:1=2&1=2|1=1?1", true);
        worth("y:1=2&(1=2|1=1)?1", false);
        worth("y:1=2|1=2|1=1?1", true);
        worth("y:1=1&1=1&1=2?1", false);
        // The first CLAUSE whose CONDITION holds tells; without one the WORTH is 0.
        worth("y:1=2?1;y:0;y:1", false);
        worth("y:1=2?0;y:1;y:0", true);
        worth("y:1=1?0;y:1", false);
        worth("y:1=2?1;y:1=3?1", false);
        worth("y:1=2?1;y:2=2?3;y:0", true);
        worth(" y : 1 + 1 = 2 & ! ( 2 = 3 ) ? [ 4 ] ; y : 0 ", true);
    }

    private static void lettersOfARope() {
        equal("p", "4");
        equal("x", "3");
        equal("l", "9");
        equal("h", "7");
        equal("d", "0-3");
        equal("t", "0");
        equal("i", "0");
        // Of each rope its own: a geared one, a screw, one that hangs.
        String[] rules = {
            "y:i=1&p=0-2&x=4&l=8&h=3&d=2?1", "y:i=2&p=0&x=1&l=6&h=5&d=0-4?1", "y:i=0&p=20&x=2&d=0-2?1",
            "y:i=3&p=0-3*[8-16]-24?1;y:i=3&p=24&d=8?1;y:i=3&p=0-24&d=8?1"
        };
        int[] free = {1, 2, 0, 3};
        for (int k = 0; k < 4; k++) {
            RopeRooms r = Check.town("l6,x2,h99;k1,l8,x4,a9,b20,h3;k2,l6,x1,u0;l8,x8,r3,h99");
            Check.rule(r, rules[k]);
            r.keep(0, 1);
            for (int p = 0; p < 4; p++) {
                CHECK.due("brake " + p + " by " + rules[k], r.rope(p, 6), p == free[k] ? 0 : 1);
            }
        }
    }

    private static void letterT() {
        RopeRooms r = Check.town("l20,b11");
        Check.rule(r, "y:t=2|t=4?1");
        r.minutes(7);
        CHECK.due("in the minutes 2 and 4 of six", r.keep(0, 6), 2);
        CHECK.due("again from 0 on", r.keep(0, 3), 1);
        CHECK.due("the last brake stays", r.rope(0, 6), 0);
        CHECK.due("minutes", r.count(3), 16);
    }

    /** Promise 30. */
    private static void keeping() {
        RopeRooms r = Check.town("l9,x4,b12;l9,x4,a12");
        CHECK.due("no rule", r.keep(0, 1), -1);
        Check.rule(r, "y:i=0&x<7?1;y:i=1&x>2?1");
        CHECK.due("keep(0, 0)", r.keep(0, 0), -1);
        CHECK.due("keep(0, 61)", r.keep(0, 61), -1);
        CHECK.due("keep(1, 1)", r.keep(1, 1), -1);
        CHECK.due("keep(-1, 1)", r.keep(-1, 1), -1);
        CHECK.due("no minutes yet", r.count(3), 0);
        CHECK.due("keep(0, 60)", r.keep(0, 60), 5);
        CHECK.due("held at 7", r.rope(0, 2), 7);
        CHECK.due("held at 2", r.rope(1, 2), 2);
        CHECK.due("brakes on", r.rope(0, 6) + r.rope(1, 6), 2);
        CHECK.due("travel", r.rope(0, 7), 3);
        CHECK.due("minutes", r.count(3), 60);
        // A brake that the rule puts on may slip, by the draws of the TOWN.
        long x = 99;
        int up = 0;
        RopeRooms s = Check.town("l20,b11,s50;l20,b11,s50", 99);
        Check.rule(s, "y:i=1&t>3?1");
        for (int m = 0; m < 10; m++) {
            x = x * 6364136223846793005L + 1442695040888963407L;
            up += (x >>> 33) % 100 < 50 ? 1 : 0;
            if (m <= 3) {
                x = x * 6364136223846793005L + 1442695040888963407L;
            }
        }
        s.keep(0, 10);
        CHECK.due("slips of the first", s.rope(0, 2), up);
    }

    /** Promise 31. */
    private static void trying() {
        RopeRooms r = Check.town("l9,x4,b12,s40;l9,x4,a12", 17);
        Check.rule(r, "y:i=1?1");
        r.want(2, 0);
        r.want(3, 8);
        r.want(1, 200);
        CHECK.due("tried(0, 0, 0)", r.tried(0, 0, 0), -1);
        CHECK.due("tried(0, 61, 0)", r.tried(0, 61, 0), -1);
        CHECK.due("tried(1, 1, 0)", r.tried(1, 1, 0), -1);
        CHECK.due("tried(-1, 1, 0)", r.tried(-1, 1, 0), -1);
        CHECK.due("tried(0, 1, 2)", r.tried(0, 1, 2), -1);
        CHECK.due("tried(0, 1, -1)", r.tried(0, 1, -1), -1);
        CHECK.due("travel behind 1", r.tried(0, 1, 0) >= 1, true);
        CHECK.due("wanted so behind 2", r.tried(0, 2, 1), 0);
        CHECK.due("wanted so behind 3: room 3", r.tried(0, 3, 1), 1);
        CHECK.due("wanted so behind 4: room 2", r.tried(0, 4, 1), 1);
        r.want(3, 9);
        CHECK.due("wanted so behind 4: both", r.tried(0, 4, 1), 2);
        int travel = r.tried(0, 9, 0);
        CHECK.due("the same again", r.tried(0, 9, 0), travel);
        CHECK.due("apart from the town: x", r.rope(1, 2), 4);
        CHECK.due("brake", r.rope(1, 6), 1);
        CHECK.due("travel", r.rope(0, 7), 0);
        CHECK.due("minutes", r.count(3), 0);
        CHECK.due("as it is kept then", r.keep(0, 9), travel);
        CHECK.due("travel of all", r.rope(0, 7) + r.rope(1, 7), travel);
        CHECK.due("travel more, not all", r.tried(0, 1, 0) <= 1, true);
    }

    /** Promise 32. */
    private static void best() {
        RopeRooms r = Check.town("l9,x4,b12;l9,x4,a12");
        CHECK.due("no rules", r.best(1), -1);
        Check.rule(r, "y:1");
        CHECK.due("one", r.best(5), 0);
        CHECK.due("best(0)", r.best(0), -1);
        CHECK.due("best(61)", r.best(61), -1);
        Check.rule(r, "y:0");
        CHECK.due("less travel", r.best(5), 1);
        Check.rule(r, "y:0*p");
        CHECK.due("the lowest of several", r.best(5), 1);
        r.want(0, 9);
        CHECK.due("more wanted so", r.best(5), 0);
        Check.rule(r, "y:i=0?1");
        CHECK.due("as many, less travel", r.best(5), 3);
        r.want(2, 0);
        CHECK.due("two wanted so", r.best(5), 0);
        CHECK.due("not in 3", r.best(3), 1);
        CHECK.due("nothing went", r.rope(0, 2), 4);
    }
}
