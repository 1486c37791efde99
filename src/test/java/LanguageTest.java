import java.io.IOException;
import java.lang.reflect.Constructor;
import java.lang.reflect.Field;
import java.lang.reflect.Method;
import java.lang.reflect.Modifier;
import java.nio.file.Files;
import java.nio.file.Path;
import java.util.ArrayList;
import java.util.List;
import java.util.Set;
import java.util.TreeSet;

/** The rules of LANGUAGE.md that can be seen from outside or in the plain text of the class. Runs in the project's folder. */
public final class LanguageTest {
    private static final Check CHECK = new Check("LanguageTest");
    private static final String SOURCE = "src/main/java/RopeRooms.java";
    private static final String[] FACE = {
        "int feed(int,int,int,int,int)", "boolean end(int)", "int fault(int)", "int text(int,long)",
        "int rope(int,int)", "int room(int,int)", "boolean brake(int,boolean)", "boolean water(int,int)",
        "int turn(int,int)", "int minutes(int)", "int rest()", "int gallery(int)", "boolean beside(int,int,boolean)",
        "int meet(int,int)", "int person(int,int)", "boolean step(int,int)", "int where(int)", "int way(int,int)",
        "int unseen(int,int,int)", "boolean want(int,int)", "int pails(int)", "int together(int)", "int task(int,int)",
        "int orders(int)", "boolean woke(int,int)", "int slipped(int)", "int rent(int,int)", "int even(int)",
        "int keep(int,int)", "int tried(int,int,int)", "int best(int)", "int feast(int)", "int group(int)",
        "int often(int,int,int,int)", "int cut(int,int)", "int load(int)", "int strain(int)", "int above(int)",
        "int sway(int,int,int)", "int image()", "int back()", "int count(int)"
    };

    public static void main(String[] args) throws IOException {
        face();
        inside();
        List<String> lines = Files.readAllLines(Path.of(SOURCE));
        words(lines);
        shortMethods(lines);
        CHECK.finish();
    }

    private static String signature(Method m) {
        StringBuilder s = new StringBuilder(m.getReturnType().getSimpleName()).append(' ').append(m.getName()).append('(');
        for (int i = 0; i < m.getParameterCount(); i++) {
            s.append(i == 0 ? "" : ",").append(m.getParameterTypes()[i].getSimpleName());
        }
        return s.append(')').toString();
    }

    /** Rule 1. */
    private static void face() {
        Set<String> due = new TreeSet<>(List.of(FACE));
        Set<String> open = new TreeSet<>();
        Set<String> hidden = new TreeSet<>();
        for (Method m : RopeRooms.class.getDeclaredMethods()) {
            if (Modifier.isPrivate(m.getModifiers())) {
                hidden.add(m.getName());
            } else {
                open.add(signature(m));
                CHECK.due(m + " is public", Modifier.isPublic(m.getModifiers()), true);
            }
        }
        CHECK.due("the face is the document's: " + open, open.equals(due), true);
        for (String one : FACE) {
            String name = one.substring(one.indexOf(' ') + 1, one.indexOf('('));
            CHECK.due("no private method is named " + name, hidden.contains(name), false);
        }
        Set<String> fields = new TreeSet<>();
        for (Field f : RopeRooms.class.getDeclaredFields()) {
            if (!Modifier.isPrivate(f.getModifiers())) {
                fields.add(f.getName());
            }
        }
        CHECK.due("constants " + fields, fields.equals(Set.of("NONE", "HIDDEN")), true);
        CHECK.due("one constructor", RopeRooms.class.getDeclaredConstructors().length, 1);
        int modifiers = RopeRooms.class.getModifiers();
        CHECK.due("public and final", Modifier.isPublic(modifiers) && Modifier.isFinal(modifiers), true);
    }

    /** Rules 2, 5 and 11. */
    private static void inside() {
        List<Class<?>> all = new ArrayList<>(List.of(RopeRooms.class.getDeclaredClasses()));
        for (Class<?> c : all) {
            int m = c.getModifiers();
            CHECK.due(c + " is static, not open", Modifier.isStatic(m) && !Modifier.isPublic(m), true);
        }
        all.add(RopeRooms.class);
        CHECK.due("twelve classes at most: " + all.size(), all.size() <= 12, true);
        for (Class<?> c : all) {
            int fields = 0;
            for (Field f : c.getDeclaredFields()) {
                boolean fixed = Modifier.isStatic(f.getModifiers());
                fields += fixed ? 0 : 1;
                CHECK.due(f + " is final if static", !fixed || Modifier.isFinal(f.getModifiers()), true);
            }
            CHECK.due(c + " has twenty fields at most: " + fields, fields <= 20, true);
            for (Method m : c.getDeclaredMethods()) {
                CHECK.due(m + " has seven parameters at most", m.getParameterCount() <= 7, true);
            }
            for (Constructor<?> k : c.getDeclaredConstructors()) {
                CHECK.due(k + " has seven parameters at most", k.getParameterCount() <= 7, true);
            }
        }
    }

    /** Rules 3, 4, 6, 10 and 13: words that do not stand in the class. */
    private static void words(List<String> lines) {
        String[] never = {
            "->", "::", "Exact", "synchronized", "assert", "finally", "catch", "try ", "package ", "System.out", "Object",
            "hashCode", "toString", "Random", "Thread", "java.io", "currentTime", "nanoTime", "double", "float", "HashMap",
            "static {", "while (true)", "for (;;)"
        };
        for (int i = 0; i < lines.size(); i++) {
            String line = lines.get(i);
            for (String word : never) {
                CHECK.due("line " + (i + 1) + " without " + word, line.contains(word), false);
            }
            if (line.startsWith("import ")) {
                CHECK.due(line, line.equals("import java.util.NoSuchElementException;"), true);
            }
            CHECK.due("line " + (i + 1) + " is not too long", line.length() <= 130, true);
            CHECK.due("line " + (i + 1) + " has signs to 127", line.chars().allMatch(c -> c < 128), true);
        }
    }

    /** Rule 11: a method begins at a line that ends in {, indented as a member, and ends at the } below it. */
    private static void shortMethods(List<String> lines) {
        int methods = 0;
        for (int i = 0; i < lines.size(); i++) {
            String line = lines.get(i);
            String indent = line.substring(0, line.length() - line.stripLeading().length());
            boolean member = (indent.length() == 4 || indent.length() == 8) && line.endsWith(") {");
            boolean flow = line.stripLeading().matches("(if|for|while|switch|\\}).*");
            if (!member || flow) {
                continue;
            }
            int end = i;
            while (end < lines.size() && !lines.get(end).equals(indent + "}")) {
                end++;
            }
            methods++;
            CHECK.due("short enough: " + line.strip() + " " + (end - i + 1), end - i + 1 <= 60, true);
        }
        CHECK.due("methods were found", methods > 80, true);
    }
}
