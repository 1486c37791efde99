import java.io.IOException;
import java.nio.file.Files;
import java.nio.file.Path;
import java.nio.file.StandardCopyOption;
import java.util.ArrayList;
import java.util.Comparator;
import java.util.List;
import java.util.Set;
import java.util.TreeSet;
import java.util.concurrent.ExecutionException;
import java.util.concurrent.ExecutorService;
import java.util.concurrent.Executors;
import java.util.concurrent.Future;
import java.util.regex.Matcher;
import java.util.regex.Pattern;
import java.util.stream.Stream;

/**
 * README.md's own lines: its example compiles and prints what it says, its commands run, the one that it names for the
 * tests runs them all and fails if one fails, its list of tests is whole. It runs in the project's folder.
 */
public final class ReadmeTest {
    private static final Check CHECK = new Check("ReadmeTest");
    private static final String[] STUBS = {"OneTest", "TwoTest", "ThreeRuns", "FourRuns"};

    /** What a command printed, and its exit code. */
    private static final class Done {
        final String out;
        final int code;

        Done(String out, int code) {
            this.out = out;
            this.code = code;
        }
    }

    public static void main(String[] args) throws IOException, InterruptedException, ExecutionException {
        String page = Files.readString(Path.of("README.md"));
        List<String> java = blocks(page, "java");
        List<String> sh = blocks(page, "sh");
        CHECK.due("one example", java.size(), 1);
        CHECK.due("three rows of commands", sh.size(), 3);
        if (java.size() == 1 && sh.size() == 3) {
            Path room = Files.createTempDirectory("readme");
            try {
                allIn(room, java.get(0), sh);
            } finally {
                remove(room);
            }
        }
        theListIsWhole(page);
        CHECK.finish();
    }

    /** All folders are made before anything runs in one: a file that is being written can't be run. */
    private static void allIn(Path room, String example, List<String> sh) throws IOException, InterruptedException,
        ExecutionException {
        String command = sh.get(1).strip();
        Path copy = project(room.resolve("copy"));
        Files.writeString(copy.resolve("Example.java"), example);
        Path wide = project(room.resolve("wide"));
        List<Path> small = projects(room, command);
        ExecutorService many = Executors.newFixedThreadPool(4);
        try {
            Future<Done> shown = many.submit(() -> run(copy, sh.get(0)));
            Future<Done> search = many.submit(() -> run(wide, sh.get(2)));
            List<Future<Done>> runs = new ArrayList<>();
            for (Path one : small) {
                runs.add(many.submit(() -> run(one, command)));
            }
            theExampleIsTrue(example, shown.get());
            theSearchGoes(search.get());
            theCommandRunsAll(runs);
        } finally {
            many.shutdown();
        }
    }

    private static List<String> blocks(String page, String sort) {
        List<String> found = new ArrayList<>();
        Matcher m = Pattern.compile("(?ms)^```" + sort + "\n(.*?)^```$").matcher(page);
        while (m.find()) {
            found.add(m.group(1));
        }
        return found;
    }

    // ---- a project's folder of its own

    private static Path project(Path folder) throws IOException {
        Path main = folder.resolve("main");
        List<Path> files;
        try (Stream<Path> all = Files.walk(Path.of("src"))) {
            files = all.filter(Files::isRegularFile).toList();
        }
        for (Path file : files) {
            Files.createDirectories(main.resolve(file).getParent());
            Files.copy(file, main.resolve(file));
        }
        return main;
    }

    private static void remove(Path folder) throws IOException {
        List<Path> all;
        try (Stream<Path> walk = Files.walk(folder)) {
            all = walk.sorted(Comparator.reverseOrder()).toList();
        }
        for (Path one : all) {
            Files.delete(one);
        }
    }

    private static Done run(Path folder, String commands) throws IOException, InterruptedException {
        Process p = new ProcessBuilder("sh", "-e", "-c", commands).directory(folder.toFile()).redirectErrorStream(true).start();
        p.getOutputStream().close();
        String out = new String(p.getInputStream().readAllBytes());
        return new Done(out, p.waitFor());
    }

    // ---- the example

    private static void theExampleIsTrue(String example, Done done) {
        CHECK.due("the example runs: " + done.out, done.code, 0);
        List<String> due = new ArrayList<>();
        Matcher m = Pattern.compile("System\\.out\\.println\\(.*\\);\\s*// ([^:\n]*):").matcher(example);
        while (m.find()) {
            due.add(m.group(1));
        }
        CHECK.due("lines that print", due.size(), example.split("println", -1).length - 1);
        CHECK.due("the example calls much", due.size() >= 20, true);
        List<String> got = done.out.lines().toList();
        CHECK.due("lines that were printed", got.size(), due.size());
        for (int i = 0; i < Math.min(got.size(), due.size()); i++) {
            String line = "line " + i + " of the example printed " + got.get(i) + ", it says " + due.get(i);
            CHECK.due(line, got.get(i).equals(due.get(i)), true);
        }
    }

    private static void theSearchGoes(Done done) {
        CHECK.due("the wider search runs: " + done.out, done.code, 0);
        for (String test : List.of("ModelTest", "SceneTest", "RunsTest")) {
            CHECK.due(test + " of the wider search", done.out.contains(test + ": "), true);
        }
    }

    // ---- the command for the tests

    /** One in which all is well, then those in which something is not: the first six run all tests nevertheless. */
    private static List<Path> projects(Path room, String command) throws IOException {
        CHECK.due("the command is a file of the project: " + command, Files.isExecutable(Path.of(command)), true);
        List<Path> all = new ArrayList<>();
        all.add(stubs(room.resolve("good"), command));
        for (String name : STUBS) {
            all.add(stubs(room.resolve("fails" + name), command));
            write(all.get(all.size() - 1), name, stub(name, "System.exit(1);"));
        }
        for (int i = 0; i < STUBS.length; i += 2) {
            all.add(stubs(room.resolve("throws" + i), command));
            String end = "if (args.length == 0) throw new IllegalStateException();";
            write(all.get(all.size() - 1), STUBS[i], stub(STUBS[i], end));
        }
        for (int i = 1; i <= 2; i++) {
            all.add(stubs(room.resolve("wrong" + i), command));
            write(all.get(all.size() - 1), STUBS[i], "no class at all");
        }
        all.add(stubs(room.resolve("alone"), command));
        remove(room.resolve("alone/shared"));
        return all;
    }

    private static void theCommandRunsAll(List<Future<Done>> runs) throws InterruptedException, ExecutionException {
        Done good = runs.get(0).get();
        CHECK.due("all pass: " + good.out, good.code, 0);
        for (int i = 1; i < runs.size(); i++) {
            CHECK.due("something fails, " + i + ": " + runs.get(i).get().out, runs.get(i).get().code != 0, true);
        }
        for (int i = 0; i <= 6; i++) {
            ran("run " + i, runs.get(i).get(), Set.of());
        }
        ran("one of the shared tests does not compile", runs.get(8).get(), Set.of(STUBS[2]));
    }

    private static void ran(String when, Done done, Set<String> not) {
        for (String name : STUBS) {
            int times = done.out.split("ran " + name + " with 6", -1).length - 1;
            CHECK.due(when + ": how often " + name + " ran", times, not.contains(name) ? 0 : 1);
        }
    }

    /** A project with the command itself, a small class, and two tests of each sort. */
    private static Path stubs(Path folder, String command) throws IOException {
        Path main = folder.resolve("main");
        Files.createDirectories(main.resolve(command).getParent());
        Files.copy(Path.of(command), main.resolve(command), StandardCopyOption.COPY_ATTRIBUTES);
        Files.createDirectories(main.resolve("src/main/java"));
        Files.createDirectories(main.resolve("src/test/java"));
        Files.createDirectories(folder.resolve("shared/tests"));
        String small = "public final class RopeRooms { public int count(int what) { return what; } }\n";
        Files.writeString(main.resolve("src/main/java/RopeRooms.java"), small);
        for (String name : STUBS) {
            write(main, name, stub(name, ""));
        }
        return main;
    }

    private static void write(Path main, String name, String text) throws IOException {
        String folder = name.endsWith("Test") ? "src/test/java" : "../shared/tests";
        Files.writeString(main.resolve(folder).resolve(name + ".java").normalize(), text);
    }

    private static String stub(String name, String end) {
        return "public final class " + name + " { public static void main(String[] args) {\n"
            + "System.out.println(\"ran " + name + " with \" + new RopeRooms().count(6));\n" + end + " } }\n";
    }

    // ---- the list of tests

    private static void theListIsWhole(String page) throws IOException {
        Set<String> due = new TreeSet<>();
        try (Stream<Path> all = Files.list(Path.of("src/test/java"))) {
            all.map(p -> p.getFileName().toString()).filter(n -> n.endsWith("Test.java"))
                .forEach(n -> due.add(n.substring(0, n.length() - 5)));
        }
        Set<String> listed = new TreeSet<>();
        Matcher m = Pattern.compile("(?m)^\\| ([A-Za-z0-9]+Test) \\| ").matcher(page);
        while (m.find()) {
            listed.add(m.group(1));
        }
        CHECK.due("the list " + listed + " is that of all tests " + due, listed.equals(due), true);
        for (String constant : List.of("`RopeRooms.NONE` (-1)", "`RopeRooms.HIDDEN` (-1000000)")) {
            CHECK.due("the page tells " + constant, page.contains(constant), true);
        }
    }
}
