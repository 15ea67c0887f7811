import java.io.IOException;
import java.lang.reflect.Constructor;
import java.lang.reflect.Field;
import java.lang.reflect.Method;
import java.lang.reflect.Modifier;
import java.nio.file.Files;
import java.nio.file.Path;
import java.util.Arrays;
import java.util.List;
import java.util.Set;
import java.util.TreeSet;

/** The public face, the constants, and those rules of LANGUAGE.md that can be read off the class. */
public final class FaceTest {
    private static final Set<String> METHODS = new TreeSet<>(List.of(
            "int tag(int,int,int,int)", "int out(int,boolean)", "int field(boolean)", "int bits(int,int)",
            "int octet(int)", "int check()", "int go()", "int answer(int)", "int state(int)", "int round()",
            "int found(int,int)", "int frames()"));

    private static final List<String> NOT_IN_THE_LANGUAGE = List.of("->", "::", "finally", "synchronized",
            "assert ", "package ", "throw ", "catch ", "Exact(", "System.", "Object ", "var ");

    public static void main(String[] args) throws IOException {
        constants();
        face();
        noNestedMethodBearsAPublicName();
        source();
        Desk.end();
    }

    private static void constants() {
        Desk.due("NONE", TagField.NONE, -1);
        Desk.due("UNKNOWN", TagField.UNKNOWN, -11);
        Desk.due("OUTSIDE", TagField.OUTSIDE, -12);
        Desk.due("STATE", TagField.STATE, -13);
        Desk.due("ROOM", TagField.ROOM, -14);
    }

    private static void face() {
        Desk.due("public final", Modifier.toString(TagField.class.getModifiers()), "public final");
        Set<String> methods = new TreeSet<>();
        for (Method method : TagField.class.getDeclaredMethods()) {
            if (!Modifier.isPrivate(method.getModifiers())) {
                String full = method.toString();
                methods.add(full.replace("public ", "").replace("TagField.", ""));
            }
        }
        Desk.due("methods", methods, METHODS);
        Set<String> constants = new TreeSet<>();
        for (Field field : TagField.class.getDeclaredFields()) {
            if (!Modifier.isPrivate(field.getModifiers())) {
                constants.add(Modifier.toString(field.getModifiers()) + " " + field.getName());
            }
        }
        String head = "public static final ";
        Desk.due("fields", constants, new TreeSet<>(List.of(
                head + "NONE", head + "UNKNOWN", head + "OUTSIDE", head + "STATE", head + "ROOM")));
        Constructor<?>[] made = TagField.class.getDeclaredConstructors();
        Desk.due("constructors", Arrays.toString(made), "[public TagField()]");
    }

    private static void noNestedMethodBearsAPublicName() {
        for (Class<?> inside : TagField.class.getDeclaredClasses()) {
            Desk.due(inside + " is static", Modifier.isStatic(inside.getModifiers()), true);
            for (Method method : inside.getDeclaredMethods()) {
                boolean taken = METHODS.stream().anyMatch(m -> m.startsWith("int " + method.getName() + "("));
                Desk.due(method + " bears a public name", taken, false);
            }
        }
    }

    private static void source() throws IOException {
        List<String> lines = Files.readAllLines(Path.of("src/main/java/TagField.java"));
        for (String line : lines) {
            boolean comment = line.strip().startsWith("/**") || line.strip().startsWith("//");
            for (String word : NOT_IN_THE_LANGUAGE) {
                Desk.due("'" + word + "' in: " + line, !comment && line.contains(word), false);
            }
            if (line.startsWith("import ")) {
                Desk.due("import", line, "import java.util.ArrayList;");
            }
        }
    }
}
