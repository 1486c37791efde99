import java.util.ArrayList;
import java.util.List;
import java.util.NoSuchElementException;
import java.util.function.Supplier;
import java.util.function.ToIntFunction;

/** Boundary cases: each a test of its own, named by the promise's number and the document's sentence. */
final class Edges {
    /** What stands for a NoSuchElementException among answers. */
    static final int THROWN = Integer.MIN_VALUE + 7;
    static final int MIN = Integer.MIN_VALUE;
    static final int MAX = Integer.MAX_VALUE;

    /** One sentence with its test. */
    static final class Named {
        final int promise;
        final String sentence;
        private final Runnable body;

        Named(int promise, String sentence, Runnable body) {
            this.promise = promise;
            this.sentence = sentence;
            this.body = body;
        }
    }

    final List<Named> all = new ArrayList<>();
    private final String test;
    private String name = "";
    private int asked;
    private int wrong;

    Edges(String test) {
        this.test = test;
    }

    void edge(int promise, String sentence, Runnable body) {
        all.add(new Named(promise, sentence, body));
    }

    /** A ground of refusal: a new object, the same each time, is asked what must be refused. */
    void refused(int promise, String sentence, Supplier<RopeRooms> make, int due, List<ToIntFunction<RopeRooms>> calls) {
        edge(promise, sentence, () -> {
            for (int i = 0; i < calls.size(); i++) {
                refuses("call " + i, make, due, calls.get(i));
            }
        });
    }

    /** The answer is as told, and all calls behind it answer as if this one had not been made. */
    void refuses(String call, Supplier<RopeRooms> make, int due, ToIntFunction<RopeRooms> refused) {
        RopeRooms touched = make.get();
        due(call, refused.applyAsInt(touched), due);
        List<String> got = Story.of(touched);
        List<String> want = Story.of(make.get());
        asked++;
        for (int i = 0; i < Math.max(got.size(), want.size()); i++) {
            String one = i < got.size() ? got.get(i) : "nothing";
            String other = i < want.size() ? want.get(i) : "nothing";
            if (!one.equals(other)) {
                fail(call + " left a trace: " + one + ", due is " + other);
                return;
            }
        }
    }

    void due(String call, long got, long want) {
        asked++;
        if (got != want) {
            fail(call + " answered " + got + ", due is " + want);
        }
    }

    void due(String call, boolean got, boolean want) {
        due(call, got ? 1 : 0, want ? 1 : 0);
    }

    void due(String call, String got, String want) {
        asked++;
        if (!got.equals(want)) {
            fail(call + " answered " + got + ", due is " + want);
        }
    }

    private void fail(String what) {
        wrong++;
        System.out.println(test + ": " + name + ": " + what);
    }

    void run() {
        for (Named one : all) {
            name = "promise " + one.promise + ", '" + one.sentence + "'";
            one.body.run();
        }
        System.out.println(test + ": " + all.size() + " sentences, " + asked + " answers, " + wrong + " not as due");
        if (wrong != 0) {
            System.exit(1);
        }
    }

    static int rope(RopeRooms r, int rope, int what) {
        try {
            return r.rope(rope, what);
        } catch (NoSuchElementException e) {
            return THROWN;
        }
    }

    static int bit(boolean answer) {
        return answer ? 1 : 0;
    }

    // ---- towns for grounds of refusal

    static RopeRooms bare() {
        return new RopeRooms();
    }

    /** No TOWN, but two RULES and a TAPE with the text of a TOWN. */
    static RopeRooms ruled() {
        RopeRooms r = new RopeRooms();
        Check.rule(r, "y:p>0&t<3?1;y:x-i");
        Check.rule(r, "y:1");
        Check.tape(r, "l4,x2;l6");
        return r;
    }

    /** Some of everything: three ROPES (rooms 0 .. 5), PLACES 12 and 13, two PERSONS, TASKS and RULES, an IMAGE. */
    static RopeRooms some() {
        RopeRooms r = Check.town("l8,x3,b11,s40;k1,l8,x2,a9,b20,u1;k2,l5,x2", 42);
        r.gallery(3);
        r.gallery(5);
        r.beside(0, 1, true);
        r.beside(0, 12, true);
        r.beside(0, 5, true);
        r.beside(1, 13, true);
        r.beside(2, 3, true);
        r.beside(12, 5, true);
        r.person(4, 0);
        r.person(7, 12);
        r.task(0, 12);
        r.task(1, 5);
        Check.rule(r, "y:p>0&t<3?1;y:x-i");
        Check.rule(r, "y:[x+t]/2-1");
        r.water(2, 5);
        r.water(1, 1);
        r.want(0, 8);
        r.want(5, 3);
        r.woke(4, 2);
        r.brake(1, false);
        r.image();
        r.minutes(1);
        Check.tape(r, "l4,x2;l6");
        return r;
    }

    /** As much of everything as there can be; the TAPE holds 160 bytes. */
    static RopeRooms full() {
        RopeRooms r = Check.town("l8,x3,s40;k1,l8,x2,u1;k2,l5;l7,x3,r1,s20,u3;l20;l9,x9,u9", 42);
        for (int g = 0; g < 6; g++) {
            r.gallery(g);
        }
        for (int one = 0; one < 18; one += 2) {
            r.beside(one, (one + 5) % 18, true);
        }
        for (int i = 0; i < 8; i++) {
            r.person(1 + i, i);
        }
        for (int i = 0; i < 6; i++) {
            r.task(i, i + 1);
        }
        for (int i = 0; i < 4; i++) {
            Check.rule(r, "y:p>" + i + "&t<3?1;y:x-i");
        }
        r.water(2, 5);
        r.want(0, 8);
        r.woke(1, 4);
        r.image();
        r.minutes(1);
        Check.tape(r, "l4,x2;l6" + " ".repeat(152));
        return r;
    }
}
