import java.util.NoSuchElementException;

/** What the tests share: telling texts to the class, and counting answers that are not due. */
final class Check {
    private final String test;
    private int asked;
    private int wrong;

    Check(String test) {
        this.test = test;
    }

    void due(String call, long got, long want) {
        asked++;
        if (got != want) {
            wrong++;
            System.out.println(test + ": " + call + " answered " + got + ", due is " + want);
        }
    }

    void due(String call, boolean got, boolean want) {
        due(call, got ? 1 : 0, want ? 1 : 0);
    }

    /** rope(..) throws NoSuchElementException, and nothing else. */
    void dueNoRope(RopeRooms r, int rope, int what) {
        asked++;
        try {
            int got = r.rope(rope, what);
            wrong++;
            System.out.println(test + ": rope(" + rope + ", " + what + ") answered " + got + ", due is a throw");
        } catch (NoSuchElementException e) {
            return;
        }
    }

    void finish() {
        System.out.println(test + ": " + asked + " answers, " + wrong + " not as due");
        if (wrong != 0) {
            System.exit(1);
        }
    }

    /** The TAPE holds just this text then (characters 1 to 255). */
    static int tape(RopeRooms r, String text) {
        r.end(0);
        int has = 0;
        for (int from = 0; from < text.length(); from += 20) {
            int[] words = words(text, from);
            has = r.feed(words[0], words[1], words[2], words[3], words[4]);
        }
        return has;
    }

    static int[] words(String text, int from) {
        int[] words = new int[5];
        for (int i = 0; i < 20; i++) {
            int c = from + i < text.length() ? text.charAt(from + i) : 0;
            words[i / 4] = words[i / 4] << 8 | c;
        }
        return words;
    }

    static RopeRooms town(String text, long seed) {
        RopeRooms r = new RopeRooms();
        tape(r, text);
        if (r.text(0, seed) < 1) {
            throw new IllegalStateException("no town: " + text);
        }
        return r;
    }

    static RopeRooms town(String text) {
        return town(text, 0);
    }

    static int rule(RopeRooms r, String text) {
        tape(r, text);
        return r.text(1, 0);
    }

    static int townFault(String text) {
        RopeRooms r = new RopeRooms();
        tape(r, text);
        return r.fault(0);
    }

    static int ruleFault(String text) {
        RopeRooms r = new RopeRooms();
        tape(r, text);
        return r.fault(1);
    }
}
