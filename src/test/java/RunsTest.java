import java.lang.reflect.InvocationTargetException;
import java.lang.reflect.Method;
import java.lang.reflect.Modifier;
import java.util.ArrayList;
import java.util.Arrays;
import java.util.Collections;
import java.util.List;
import java.util.Map;
import java.util.NoSuchElementException;
import java.util.Random;
import java.util.TreeMap;

/**
 * Runs of 512 calls on one object: every method of the face, with arguments inside and outside its bounds, directly behind
 * every other one (itself too) in every such pair; and every method with every choice of far and near numbers. Each call
 * ends, throws nothing but the NoSuchElementException of rope, there where it is due, answers what is outside as the
 * document tells, and the rest as the slow Model does. Not compared, as the Model tries everything: pails with more than two
 * ROPES, orders with more than three TASKS, together and feast in large towns (SceneTest and the Edge tests have such);
 * how many calls these were is printed.
 */
public final class RunsTest {
    private static final int CALLS = 512;
    private static final long TOO_LONG = 60_000;
    private static final long THROWN = 1L << 40;
    private static final long UNKNOWN = 1L << 41;
    private static final int MIN = Integer.MIN_VALUE;
    private static final int MAX = Integer.MAX_VALUE;
    private static final int[] EDGES = {MIN, -1000000, -21, -2, -1, 0, 1, 2, 5, 11, 12, 18, 61, MAX};
    private static final int[] WORDS = {0, 0x6C342C78, 0x793A3120, MIN, -1};

    /**
     * What each parameter can be: p a ROPE, r a room, c a PLACE, i a PERSON, u a RULE (capital letters: or NONE), from..to,
     * b true or false, s bits of rooms, n bytes of the TAPE, w a word of a text, l a long. The first is what is answered
     * if one of them is none of these: N NONE, H HIDDEN, F false, 2 -2, X NoSuchElementException.
     */
    private static final Map<String, String> BOUNDS = new TreeMap<>(Map.ofEntries(
        told("feed", "N w w w w w"), told("end", "F n"), told("fault", "2 0..1"), told("text", "N 0..1 l"),
        told("rope", "X p 0..9"), told("room", "H r 0..3"), told("brake", "F p b"), told("water", "F r 0..99"),
        told("turn", "N p -20..20"), told("minutes", "N 1..60"), told("rest", "N"), told("gallery", "N 0..60"),
        told("beside", "F c c b"), told("meet", "N c c"), told("person", "N 1..9 c"), told("step", "F i c"),
        told("where", "N i"), told("way", "N c c"), told("unseen", "H r r 0..60"), told("want", "F r -1..200"),
        told("pails", "H R"), told("together", "N 0..1"), told("task", "N i c"), told("orders", "N 0..1"),
        told("woke", "F r -1..200"), told("slipped", "N 1..60"), told("rent", "N R 0..99"), told("even", "N 0..1"),
        told("keep", "N u 1..60"), told("tried", "N u 1..60 0..1"), told("best", "N 1..60"), told("feast", "N s"),
        told("group", "N C"), told("often", "H c c 0..60 0..2"), told("cut", "N p 0..1"), told("load", "N r"),
        told("strain", "N P"), told("above", "N r"), told("sway", "N p 1..60 1..20"), told("image", "N"),
        told("back", "N"), told("count", "H 0..6")));

    /** Texts that come with one feed: towns, parts of towns, RULES, and what is neither. */
    private static final String[] TEXTS = {
        "l8,x3,b11,s40;l4,u1", "k1,l8,x4;k2,l5,u0", "l4,x2;l4,x2;l4,x2", "l9,r3,x4,s90;k2,l4", "k2,l6,x1", "l20,x10,h0",
        ";l6,x2,u1", ",b12", ";k1,l6,a9", "y:1", "y:p>3&t<9?1;y:x-i", "y:!(x=l|p<0)?d*9", "y:[[h+t]*9999]/d", ";y:i=1?p",
        "y:!!!!!!p=1?1", "y:!!!!!!!p=1?1", "l21", "u0", "k1,l5", "a1000", "z", " ", "y:"
    };
    private static final String[] TOWNS = {
        "l8,x3,b11,s40;k1,l8,x2,a9,b20,u1;k2,l5,x2", "l10,x4,a10,b12,h1;k1,l8,x4,a10,b15,h9,u0;k2,l6,x1,u1",
        "l20,x10,r2,h0,s50;l20,x20,u0;l20,x1,u2;k2,l20,u4;k1,l20,u6;l20,x7,u8,s100",
        "l4,x2;l4,x2;l4,x2;l4,x2;l4,x2;k1,l4,x2,s3", "k1,l6,x4,a4,b9,h0;l3,x1,s99", "k2,l5,x3"
    };

    private static final String[] RULES = {
        "y:p>2&t<6?1;y:x-i*2", "y:9/[x-4]+p/d*p/[h-5]", "y:!(x=l|p<0)&!(t>3)?[[h+t]*9999]*9999*d;y:i",
        "y:[[[[[[d]]]]]]-[[[[[[i]]]]]]", "y:!(!(!(p>0))|d=0)?1", "y:t/i-l/t", "y:0-9999*9999*9999/[x-x]+1"
    };

    private static volatile String asking = "nothing";
    private static volatile long since = Long.MAX_VALUE;

    private final Check check;
    private final Random luck;
    private final List<Method> face = new ArrayList<>();
    private final Map<String, Integer> fine = new TreeMap<>();
    private RopeRooms real;
    private Model model;
    private int calls;
    private static int asked;
    private static int apart;

    private RunsTest(Check check, long seed) {
        this.check = check;
        luck = new Random(seed);
        for (Method m : RopeRooms.class.getDeclaredMethods()) {
            if (Modifier.isPublic(m.getModifiers())) {
                face.add(m);
            }
        }
        face.sort((a, b) -> a.getName().compareTo(b.getName()));
        start();
    }

    public static void main(String[] args) {
        int rounds = args.length > 0 ? Integer.parseInt(args[0]) : 40;
        int from = args.length > 1 ? Integer.parseInt(args[1]) : 0;
        watch();
        Check check = new Check("RunsTest");
        RunsTest all = new RunsTest(check, -1);
        all.everyMethodIsTold();
        for (int round = from; round < from + rounds; round++) {
            RunsTest one = new RunsTest(check, round);
            one.everyPair(round, CALLS);
            one.fine.forEach((name, n) -> all.fine.merge(name, n, Integer::sum));
        }
        // Rule 7 of LANGUAGE.md knows no last call: what is asked later may answer anything, but neither throws nor stays.
        new RunsTest(check, from).everyPair(3, MAX);
        all.everyEdge();
        all.everythingWasDone();
        System.out.println("RunsTest: " + asked + " calls, " + apart + " of them not compared with the model");
        check.finish();
    }

    /** A call that does not end would hold all up: whoever waits too long for one ends the test. */
    private static void watch() {
        Thread watcher = new Thread(() -> {
            while (true) {
                try {
                    Thread.sleep(500);
                } catch (InterruptedException e) {
                    return;
                }
                if (System.currentTimeMillis() - since > TOO_LONG) {
                    System.out.println("RunsTest: " + asking + " does not end");
                    Runtime.getRuntime().halt(1);
                }
            }
        });
        watcher.setDaemon(true);
        watcher.start();
    }

    private static Map.Entry<String, String> told(String name, String bounds) {
        return Map.entry(name, bounds);
    }

    private void everyMethodIsTold() {
        check.due("methods of the face", face.size(), 42);
        for (Method m : face) {
            String bounds = BOUNDS.get(m.getName());
            check.due("bounds of " + m.getName(), bounds != null, true);
            check.due("parameters of " + m.getName(), m.getParameterCount(), bounds == null ? -1 : bounds.split(" ").length - 1);
        }
    }

    /** Most calls with arguments inside are not refused: each method did what it is for. */
    private void everythingWasDone() {
        for (Method m : face) {
            check.due(m.getName() + " was not always refused", fine.getOrDefault(m.getName(), 0) > 0, true);
        }
    }

    // ---- walks

    private void start() {
        real = new RopeRooms();
        model = new Model();
        calls = 0;
    }

    /**
     * All pairs of two sorts, one directly behind the other: 0, 0 1, 0 2, .. 1, 1 2, .. has each once. The sorts are the
     * methods, each with arguments inside, and outside; their order is drawn.
     */
    private void everyPair(int round, int most) {
        List<Integer> sorts = new ArrayList<>();
        for (int i = 0; i < 2 * face.size(); i++) {
            sorts.add(i);
        }
        Collections.shuffle(sorts, luck);
        List<Integer> walk = new ArrayList<>();
        for (int i = 0; i < sorts.size(); i++) {
            walk.add(sorts.get(i));
            for (int j = i + 1; j < sorts.size(); j++) {
                walk.add(sorts.get(i));
                walk.add(sorts.get(j));
            }
        }
        walk.add(sorts.get(0));
        int at = 0;
        for (int run = 0; at < walk.size() - 1; run++) {
            start();
            setUp((round + run) % 4);
            for (; calls < most && at < walk.size(); at++) {
                step(walk.get(at));
            }
            // The last call is the first one of the next run, so that no pair is left out.
            at--;
        }
    }

    private void step(int sort) {
        Method m = face.get(sort / 2);
        boolean inside = sort % 2 == 0;
        String[] bounds = BOUNDS.get(m.getName()).split(" ");
        int n = bounds.length - 1;
        int wrong = inside || n == 0 ? -1 : luck.nextInt(n);
        Object[] args = new Object[n];
        boolean outside = false;
        for (int i = 0; i < n; i++) {
            boolean out = i == wrong || !inside && luck.nextInt(4) == 0;
            String bound = bounds[i + 1];
            boolean can = !bound.equals("b") && !bound.equals("l") && !bound.equals("w");
            args[i] = out && can ? (Object) outside(bound) : inside(bound, i);
            outside |= out && can;
        }
        if (m.getName().equals("feed")) {
            word(args, inside);
        }
        long got = ask(m, args);
        if (outside) {
            check.due(name(m, args) + ", outside its bounds", got, refusal(bounds[0]));
        } else if (got != refusal(bounds[0])) {
            fine.merge(m.getName(), 1, Integer::sum);
        }
    }

    private static long refusal(String letter) {
        switch (letter) {
            case "N": return -1;
            case "H": return -1000000;
            case "F": return 0;
            case "2": return -2;
            default: return THROWN;
        }
    }

    /** How many there are of what a letter tells, by the model. */
    private int many(String letter) {
        switch (letter) {
            case "p": return model.count(0);
            case "r": return 2 * model.count(0);
            case "i": return model.count(5);
            case "u": return model.count(1);
            case "s": return model.count(0) == 0 ? 0 : 1 << 2 * model.count(0);
            default: return model.count(2) + 1;
        }
    }

    private Object inside(String bound, int index) {
        if (bound.contains("..")) {
            int from = Integer.parseInt(bound.substring(0, bound.indexOf('.')));
            int to = Integer.parseInt(bound.substring(bound.lastIndexOf('.') + 1));
            int dice = luck.nextInt(8);
            return dice == 0 ? from : dice == 1 ? to : from + luck.nextInt(to - from + 1);
        }
        if (bound.equals("b")) {
            return luck.nextInt(3) != 0;
        }
        if (bound.equals("l")) {
            return luck.nextLong();
        }
        if (Character.isUpperCase(bound.charAt(0)) && luck.nextInt(2) == 0) {
            return -1;
        }
        String letter = bound.toLowerCase();
        if (letter.equals("c")) {
            int galleries = model.count(4);
            return galleries > 0 && luck.nextInt(2) == 0 ? 12 + luck.nextInt(galleries) : inside("r", index);
        }
        int least = letter.equals("s") ? 1 : 0;
        return least + luck.nextInt(Math.max(1, many(letter) - least));
    }

    private int outside(String bound) {
        int from = bound.contains("..") ? Integer.parseInt(bound.substring(0, bound.indexOf('.'))) : 0;
        int to = bound.contains("..") ? Integer.parseInt(bound.substring(bound.lastIndexOf('.') + 1)) : 0;
        String letter = bound.toLowerCase();
        if (letter.equals("c")) {
            int rooms = 2 * model.count(0);
            int[] none = {12 + model.count(4), 18, -2, MAX, rooms < 12 ? rooms : 32};
            return none[luck.nextInt(none.length)];
        }
        if (!bound.contains("..")) {
            // NONE stands for something else where the letter is a capital one.
            from = Character.isUpperCase(bound.charAt(0)) ? -1 : letter.equals("s") ? 1 : 0;
            to = many(letter) - 1;
        }
        int[] far = {from - 1, to + 1, MIN, MAX, from - 2 - luck.nextInt(1000), to + 1 + luck.nextInt(1000)};
        return far[luck.nextInt(far.length)];
    }

    /** Words of a text; outside of them any words at all. */
    private void word(Object[] args, boolean inside) {
        String text = TEXTS[luck.nextInt(TEXTS.length)];
        int[] words = Check.words(text, 0);
        for (int i = 0; i < 5; i++) {
            args[i] = inside ? words[i] : luck.nextInt(3) == 0 ? WORDS[luck.nextInt(WORDS.length)] : luck.nextInt();
        }
    }

    /** 0: no TOWN; else one, and 2 and 3 with much that is in it. */
    private void setUp(int how) {
        if (how == 0) {
            return;
        }
        tell(TOWNS[luck.nextInt(TOWNS.length)], 0);
        if (how == 1) {
            return;
        }
        for (int i = how == 3 ? 4 : luck.nextInt(4); i > 0; i--) {
            tell(RULES[luck.nextInt(RULES.length)], 1);
        }
        repeat("gallery", how == 3 ? 6 : luck.nextInt(5));
        repeat("beside", 10 + luck.nextInt(30));
        repeat("person", how == 3 ? 8 : luck.nextInt(6));
        repeat("task", how == 3 ? 6 : luck.nextInt(4));
        repeat("brake", luck.nextInt(4));
        repeat("want", luck.nextInt(4));
        repeat("image", luck.nextInt(2));
    }

    private void tell(String text, int sort) {
        for (int from = 0; from < text.length(); from += 20) {
            int[] w = Check.words(text, from);
            ask(method("feed"), new Object[] {w[0], w[1], w[2], w[3], w[4]});
        }
        ask(method("text"), new Object[] {sort, luck.nextLong()});
    }

    private void repeat(String name, int times) {
        for (int i = 0; i < times; i++) {
            step(2 * face.indexOf(method(name)));
        }
    }

    private Method method(String name) {
        for (Method m : face) {
            if (m.getName().equals(name)) {
                return m;
            }
        }
        throw new IllegalStateException(name);
    }

    // ---- near and far numbers

    private void everyEdge() {
        for (Method m : face) {
            Object[][] choices = new Object[m.getParameterCount()][];
            for (int i = 0; i < choices.length; i++) {
                choices[i] = choices(m, m.getParameterTypes()[i]);
            }
            start();
            setUp(3);
            everyChoice(m, choices, new Object[choices.length], 0);
            start();
            everyChoice(m, choices, new Object[choices.length], 0);
        }
    }

    private Object[] choices(Method m, Class<?> type) {
        if (type == boolean.class) {
            return new Object[] {true, false};
        }
        if (type == long.class) {
            return new Object[] {Long.MIN_VALUE, -1L, 0L, Long.MAX_VALUE};
        }
        int[] numbers = m.getName().equals("feed") ? WORDS : EDGES;
        Object[] all = new Object[numbers.length];
        Arrays.setAll(all, i -> numbers[i]);
        return all;
    }

    private void everyChoice(Method m, Object[][] choices, Object[] args, int index) {
        if (index == choices.length) {
            if (calls >= CALLS) {
                start();
                setUp(luck.nextInt(4));
            }
            ask(m, args.clone());
            return;
        }
        for (Object one : choices[index]) {
            args[index] = one;
            everyChoice(m, choices, args, index + 1);
        }
    }

    // ---- one call

    private static String name(Method m, Object[] args) {
        String all = Arrays.toString(args);
        return m.getName() + "(" + all.substring(1, all.length() - 1) + ")";
    }

    private long ask(Method m, Object[] args) {
        calls++;
        String name = name(m, args);
        asking = name;
        since = System.currentTimeMillis();
        long got = answer(real, m, args, name);
        since = Long.MAX_VALUE;
        boolean dear = m.getName().equals("pails") && model.count(0) > 2 || m.getName().equals("orders") && model.count(6) > 3;
        long want = dear ? UNKNOWN : modelAnswer(m, args, name);
        asked++;
        if (want == UNKNOWN || want == Model.TOO_DEAR) {
            apart++;
        } else {
            check.due("call " + calls + ", " + name, got, want);
        }
        if (m.getName().equals("rope")) {
            int rope = (Integer) args[0];
            int what = (Integer) args[1];
            boolean none = rope < 0 || rope >= model.count(0) || what < 0 || what > 9;
            check.due(name + " throws", got == THROWN, none);
        }
        return got;
    }

    private long modelAnswer(Method m, Object[] args, String name) {
        try {
            return answer(model, Model.class.getDeclaredMethod(m.getName(), m.getParameterTypes()), args, name);
        } catch (NoSuchMethodException e) {
            throw new IllegalStateException(e);
        }
    }

    private long answer(Object whom, Method m, Object[] args, String name) {
        try {
            Object answer = m.invoke(whom, args);
            return answer instanceof Boolean ? ((Boolean) answer ? 1 : 0) : (Integer) answer;
        } catch (InvocationTargetException e) {
            if (e.getCause().getClass() == NoSuchElementException.class && m.getName().equals("rope")) {
                return THROWN;
            }
            check.due(name + " threw " + e.getCause(), true, false);
            return UNKNOWN;
        } catch (IllegalAccessException e) {
            throw new IllegalStateException(e);
        }
    }
}
