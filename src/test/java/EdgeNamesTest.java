import java.io.IOException;
import java.nio.file.Files;
import java.nio.file.Path;
import java.util.ArrayList;
import java.util.List;
import java.util.regex.Matcher;
import java.util.regex.Pattern;

/**
 * The names of tests against the document: each names a sentence that stands there, each ground of refusal has a test,
 * so has each bound in the terms, and no word of the terms and of the promises is without one. It runs in the project's
 * folder.
 */
public final class EdgeNamesTest {
    private static final Check CHECK = new Check("EdgeNamesTest");
    private static final int PROMISES = 43;

    public static void main(String[] args) throws IOException {
        String doc = Files.readString(Path.of("../shared/DOC.md")).replace("```text", " ").replace("```", " ");
        doc = doc.replaceAll("==== \\d\\.", " ").replaceAll("\\s+", " ");
        String terms = between(doc, "## Terms", "## Promise 1:");
        List<Edges.Named> all = all();
        namesStandThere(doc, between(doc, "## What it is", "## The public face") + terms, all);
        groundsHaveTests(doc, all);
        termsHaveTests(terms, all);
        wordsHaveTests("the terms", terms, all, 0);
        for (int n = 1; n <= PROMISES; n++) {
            wordsHaveTests("promise " + n, promise(doc, n), all, n);
        }
        CHECK.finish();
    }

    private static List<Edges.Named> all() {
        Edges e = new Edges("EdgeNamesTest");
        Edge01to05Test.tell(e);
        Edge06to12Test.tell(e);
        Edge13to20Test.tell(e);
        Edge21to29Test.tell(e);
        Edge30to32Test.tell(e);
        Edge33to43Test.tell(e);
        SentenceTest.tell(e);
        return e.all;
    }

    private static String between(String text, String from, String to) {
        int begin = text.indexOf(from) + from.length();
        int end = text.indexOf(to, begin);
        return end < 0 ? text.substring(begin) : text.substring(begin, end);
    }

    private static String promise(String doc, int n) {
        String next = n == PROMISES ? "## Not promised" : "## Promise " + (n + 1) + ":";
        return between(doc, "## Promise " + n + ":", next);
    }

    /** The grounds of refusal of a promise, each as 'NONE: no TOWN'. */
    private static List<String> grounds(String promise) {
        List<String> found = new ArrayList<>();
        Matcher m = Pattern.compile("(?<= )(NONE|HIDDEN|-2|False|NoSuchElementException): ([^.]*)\\.").matcher(promise);
        while (m.find()) {
            for (String ground : m.group(2).split(", ")) {
                found.add(m.group(1) + ": " + ground);
            }
        }
        return found;
    }

    private static void namesStandThere(String doc, String terms, List<Edges.Named> all) {
        for (Edges.Named one : all) {
            String own = promise(doc, one.promise);
            boolean stands = own.contains(one.sentence) || terms.contains(one.sentence)
                || grounds(own).contains(one.sentence);
            CHECK.due("promise " + one.promise + " has '" + one.sentence + "'", stands, true);
        }
    }

    private static void groundsHaveTests(String doc, List<Edges.Named> all) {
        int grounds = 0;
        for (int n = 1; n <= PROMISES; n++) {
            int tests = 0;
            for (Edges.Named one : all) {
                tests += one.promise == n ? 1 : 0;
            }
            CHECK.due("promise " + n + " has tests", tests > 0, true);
            for (String ground : grounds(promise(doc, n))) {
                grounds++;
                boolean has = false;
                for (Edges.Named one : all) {
                    has |= one.promise == n && (one.sentence.equals(ground) || one.sentence.endsWith("(2; " + ground));
                }
                CHECK.due("promise " + n + ", '" + ground + "' has a test", has, true);
            }
        }
        CHECK.due("grounds were found", grounds >= 80, true);
    }

    /** What is left of a text, if all that tests name (those of one promise, or of all: 0) is taken out, is signs alone. */
    private static void wordsHaveTests(String name, String text, List<Edges.Named> all, int promise) {
        StringBuilder left = new StringBuilder(text);
        for (Edges.Named one : all) {
            if (promise == 0 || one.promise == promise) {
                takeOut(left, text, one.sentence, 0);
                // A ground further on in a row of them is named with the answer that stands ahead of the row.
                Matcher ground = Pattern.compile("(NONE|HIDDEN|-2|False): (.*)").matcher(one.sentence);
                if (ground.matches() && !text.contains(one.sentence)) {
                    takeOut(left, text, ", " + ground.group(2), text.indexOf(ground.group(1) + ": "));
                }
            }
        }
        String words = left.toString().replaceAll("^ [A-Za-z ]+ `[^`]*`", "").replace("The constants", "");
        words = words.replaceAll("(WAY|UNSEEN):", "").replaceAll("[^A-Za-z0-9]+", " ").strip();
        CHECK.due("words of " + name + " without a test: '" + words + "'", words.isEmpty(), true);
    }

    private static void takeOut(StringBuilder left, String text, String words, int from) {
        for (int at = text.indexOf(words, from); at >= 0; at = text.indexOf(words, at + 1)) {
            for (int i = at; i < at + words.length(); i++) {
                left.setCharAt(i, ' ');
            }
        }
    }

    /** Each bound in brackets and each phrase that names an edge lies within a sentence that has a test. */
    private static void termsHaveTests(String terms, List<Edges.Named> all) {
        boolean[] covered = new boolean[terms.length()];
        for (Edges.Named one : all) {
            for (int at = terms.indexOf(one.sentence); at >= 0; at = terms.indexOf(one.sentence, at + 1)) {
                java.util.Arrays.fill(covered, at, at + one.sentence.length(), true);
            }
        }
        Matcher m = Pattern.compile("\\.\\. |at most|At most|of several|FAULT|going round|else it stays|too early|"
            + "one at least|without sign|to the base|by 0 gives|1 to 4|one to three|changes nothing").matcher(terms);
        int edges = 0;
        while (m.find()) {
            edges++;
            int from = Math.max(0, m.start() - 30);
            String around = terms.substring(from, Math.min(terms.length(), m.end() + 30));
            CHECK.due("'" + around + "' has a test", covered[m.start()], true);
        }
        CHECK.due("edges were found", edges >= 40, true);
    }
}
