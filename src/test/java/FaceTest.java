import java.io.IOException;
import java.lang.reflect.Constructor;
import java.lang.reflect.Field;
import java.lang.reflect.Method;
import java.lang.reflect.Modifier;
import java.nio.file.Files;
import java.nio.file.Path;
import java.util.ArrayList;
import java.util.Arrays;
import java.util.List;
import java.util.Set;
import java.util.TreeSet;

/** The public face, the constants, and those rules of LANGUAGE.md that can be read off the class. */
public final class FaceTest {
    private static final Set<String> METHODS = new TreeSet<>(List.of(
            "int tag(int,int,int,int)", "int out(int,boolean)", "int field(boolean)", "int bits(int,int)",
            "int octet(int)", "int check()", "int go()", "int answer(int)", "int state(int)", "int round()",
            "int found(int,int)", "int frames()"));

    private static final List<String> NOT_IN_THE_LANGUAGE = List.of("->", "::", "finally", "synchronized",
            "assert ", "package ", "throw ", "catch ", "Exact(", "System.", "Object ", "var ");

    public static void main(String[] args) throws IOException {
        constants();
        face();
        noNestedMethodBearsAPublicName();
        staticFieldsAreConstants();
        sizes();
        source();
        methodsAreShort();
        Desk.end();
    }

    private static void constants() {
        Desk.due("NONE", TagField.NONE, -1);
        Desk.due("UNKNOWN", TagField.UNKNOWN, -11);
        Desk.due("OUTSIDE", TagField.OUTSIDE, -12);
        Desk.due("STATE", TagField.STATE, -13);
        Desk.due("ROOM", TagField.ROOM, -14);
    }

    private static void face() {
        Desk.due("public final", Modifier.toString(TagField.class.getModifiers()), "public final");
        Set<String> methods = new TreeSet<>();
        for (Method method : TagField.class.getDeclaredMethods()) {
            if (!Modifier.isPrivate(method.getModifiers())) {
                String full = method.toString();
                methods.add(full.replace("public ", "").replace("TagField.", ""));
            }
        }
        Desk.due("methods", methods, METHODS);
        Set<String> constants = new TreeSet<>();
        for (Field field : TagField.class.getDeclaredFields()) {
            if (!Modifier.isPrivate(field.getModifiers())) {
                constants.add(Modifier.toString(field.getModifiers()) + " " + field.getName());
            }
        }
        String head = "public static final ";
        Desk.due("fields", constants, new TreeSet<>(List.of(
                head + "NONE", head + "UNKNOWN", head + "OUTSIDE", head + "STATE", head + "ROOM")));
        Constructor<?>[] made = TagField.class.getDeclaredConstructors();
        Desk.due("constructors", Arrays.toString(made), "[public TagField()]");
    }

    private static void noNestedMethodBearsAPublicName() {
        for (Class<?> inside : TagField.class.getDeclaredClasses()) {
            Desk.due(inside + " is static", Modifier.isStatic(inside.getModifiers()), true);
            for (Method method : inside.getDeclaredMethods()) {
                boolean taken = METHODS.stream().anyMatch(m -> m.startsWith("int " + method.getName() + "("));
                Desk.due(method + " bears a public name", taken, false);
            }
        }
    }

    /** TagField and the classes inside it. */
    private static List<Class<?>> classes() {
        List<Class<?>> all = new ArrayList<>(List.of(TagField.class.getDeclaredClasses()));
        all.add(TagField.class);
        return all;
    }

    private static void staticFieldsAreConstants() {
        Set<Class<?>> types = Set.of(int.class, long.class, boolean.class, char.class, String.class,
                int[].class, long[].class, char[].class, byte[].class);
        for (Class<?> one : classes()) {
            for (Field field : one.getDeclaredFields()) {
                boolean constant = types.contains(field.getType()) || field.isEnumConstant() || field.isSynthetic();
                boolean isFinal = Modifier.isFinal(field.getModifiers());
                boolean isStatic = Modifier.isStatic(field.getModifiers());
                Desk.due(field + " is a constant, if static", !isStatic || isFinal && constant, true);
            }
        }
    }

    private static void sizes() {
        Desk.due("more than 12 classes", classes().size() > 12, false);
        for (Class<?> one : classes()) {
            long fields = Arrays.stream(one.getDeclaredFields())
                    .filter(field -> !Modifier.isStatic(field.getModifiers())).count();
            Desk.due(one + " has more than 20 fields", fields > 20, false);
            for (Method method : one.getDeclaredMethods()) {
                Desk.due(method + " has more than 7 parameters", method.getParameterCount() > 7, false);
            }
        }
    }

    /** A method ends at the first closing brace that stands as far in as it does. */
    private static void methodsAreShort() throws IOException {
        List<String> lines = Files.readAllLines(Path.of("src/main/java/TagField.java"));
        for (int i = 0; i < lines.size(); i++) {
            String line = lines.get(i);
            String indent = line.substring(0, line.length() - line.stripLeading().length());
            boolean method = line.endsWith(") {") && (indent.length() == 4 || indent.length() == 8);
            if (method && !line.strip().startsWith("for ") && !line.strip().startsWith("if ")) {
                int length = lines.subList(i, lines.size()).indexOf(indent + "}") + 1;
                Desk.due("more than 60 lines: " + line.strip(), length > 60, false);
            }
        }
    }

    private static void source() throws IOException {
        List<String> lines = Files.readAllLines(Path.of("src/main/java/TagField.java"));
        for (String line : lines) {
            boolean comment = line.strip().startsWith("/**") || line.strip().startsWith("//");
            for (String word : NOT_IN_THE_LANGUAGE) {
                Desk.due("'" + word + "' in: " + line, !comment && line.contains(word), false);
            }
            if (line.startsWith("import ")) {
                Desk.due("import", line, "import java.util.ArrayList;");
            }
        }
    }
}
