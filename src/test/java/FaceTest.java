import java.io.IOException;
import java.lang.reflect.Constructor;
import java.lang.reflect.Executable;
import java.lang.reflect.Field;
import java.lang.reflect.Method;
import java.lang.reflect.Modifier;
import java.nio.file.Files;
import java.nio.file.Path;
import java.util.ArrayList;
import java.util.List;
import java.util.Set;
import java.util.TreeSet;

/** 'The public face' of the document, read from it, against the class: the very names, parameters, constants and throws. */
public final class FaceTest {
    private static final Check CHECK = new Check("FaceTest");
    private static final String SOURCE = "src/main/java/RopeRooms.java";

    public static void main(String[] args) throws IOException, IllegalAccessException {
        List<String> due = declarations();
        CHECK.due("declarations were found in the document", due.size(), 45);
        Set<String> open = new TreeSet<>();
        for (Method m : RopeRooms.class.getDeclaredMethods()) {
            if (!Modifier.isPrivate(m.getModifiers())) {
                open.add(head(m) + " " + m.getReturnType().getSimpleName() + " " + m.getName() + tail(m));
            }
        }
        for (Constructor<?> k : RopeRooms.class.getDeclaredConstructors()) {
            open.add(head(k) + " RopeRooms" + tail(k));
        }
        for (Field f : RopeRooms.class.getDeclaredFields()) {
            if (!Modifier.isPrivate(f.getModifiers())) {
                String head = Modifier.toString(f.getModifiers());
                open.add(head + " " + f.getType().getSimpleName() + " " + f.getName() + " = " + f.getInt(null));
            }
        }
        compare(due, open);
        theSourceSaysSo(due);
        namesAreTakenOnce();
        CHECK.due("public and final", RopeRooms.class.getModifiers(), Modifier.PUBLIC | Modifier.FINAL);
        CHECK.due("no package", RopeRooms.class.getName().indexOf('.'), -1);
        CHECK.due("above it is Object alone", RopeRooms.class.getSuperclass() == Object.class, true);
        CHECK.due("it is nothing else", RopeRooms.class.getInterfaces().length, 0);
        CHECK.finish();
    }

    /** The lines of the document's block that begin with 'public', but for the class itself. */
    private static List<String> declarations() throws IOException {
        String doc = Files.readString(Path.of("../shared/DOC.md"));
        int begin = doc.indexOf("```java", doc.indexOf("## The public face"));
        List<String> found = new ArrayList<>();
        for (String line : doc.substring(begin, doc.indexOf("```", begin + 3)).split("\n")) {
            if (line.strip().startsWith("public ") && line.strip().endsWith(";")) {
                found.add(line.strip().substring(0, line.strip().length() - 1));
            }
        }
        return found;
    }

    private static String head(Executable one) {
        return Modifier.toString(one.getModifiers());
    }

    private static String tail(Executable one) {
        StringBuilder s = new StringBuilder("(");
        for (int i = 0; i < one.getParameterCount(); i++) {
            s.append(i == 0 ? "" : ", ").append(one.getParameterTypes()[i].getSimpleName());
        }
        s.append(")");
        for (Class<?> thrown : one.getExceptionTypes()) {
            s.append(" throws ").append(thrown.getSimpleName());
        }
        return s.toString();
    }

    /** Names of parameters do not stay in the class file: they are looked for in the source. */
    private static void compare(List<String> due, Set<String> open) {
        Set<String> want = new TreeSet<>();
        for (String one : due) {
            want.add(one.replaceAll("\\b(int|long|boolean) [a-z]+(?=[,)])", "$1"));
        }
        for (String one : want) {
            CHECK.due("the class has " + one, open.contains(one), true);
        }
        for (String one : open) {
            CHECK.due("the document has " + one, want.contains(one), true);
        }
    }

    private static void theSourceSaysSo(List<String> due) throws IOException {
        String source = Files.readString(Path.of(SOURCE));
        for (String one : due) {
            String end = one.contains(" = ") ? ";" : " {";
            CHECK.due("the source has " + one, source.contains("\n    " + one + end + "\n"), true);
        }
    }

    /** Rule 1 of LANGUAGE.md: no private method bears the name of a public one. */
    private static void namesAreTakenOnce() {
        Set<String> open = new TreeSet<>();
        List<Method> all = new ArrayList<>(List.of(RopeRooms.class.getDeclaredMethods()));
        for (Method m : all) {
            if (!Modifier.isPrivate(m.getModifiers())) {
                CHECK.due("the face has one " + m.getName(), open.add(m.getName()), true);
            }
        }
        for (Class<?> c : RopeRooms.class.getDeclaredClasses()) {
            int how = c.getModifiers();
            CHECK.due(c + " is static, not open", Modifier.isStatic(how) && !Modifier.isPublic(how)
                && !Modifier.isProtected(how), true);
            all.addAll(List.of(c.getDeclaredMethods()));
        }
        for (Method m : all) {
            boolean hidden = m.getDeclaringClass() != RopeRooms.class || Modifier.isPrivate(m.getModifiers());
            CHECK.due(m + " has a name of its own", hidden && open.contains(m.getName()), false);
        }
    }
}
