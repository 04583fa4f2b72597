import java.io.IOException;
import java.lang.reflect.Constructor;
import java.lang.reflect.Field;
import java.lang.reflect.Method;
import java.lang.reflect.Modifier;
import java.nio.file.Files;
import java.nio.file.Path;
import java.util.ArrayList;
import java.util.Arrays;
import java.util.List;
import java.util.TreeSet;
import java.util.regex.Matcher;
import java.util.regex.Pattern;

/** The public face, and those rules of LANGUAGE.md that can be seen from outside or from the source's words. */
public final class FaceTest {
    private static final String[] METHODS = {"set(int,int)", "starter(boolean)", "spark(boolean)", "fuel(int)", "drain()",
        "battery(int)", "tick(int)", "run()", "engine(int)", "start(int,int)", "count(int)", "untilRunning()",
        "ifTicked(int,int)", "bestFuel()", "leastBattery()", "put(long)", "wipe()", "fault()", "undo()", "save(int)",
        "restore(int)"};
    private static final String[] CONSTANTS = {"NO_SUCH=-1", "BAD_VALUE=-2", "BAD_TEXT=-3", "TOO_MANY=-4",
        "NOT_POSSIBLE=-5", "NONE=-6", "CRANK=0", "DRAG=1", "HEAT=2", "COOL=3", "LIMIT=4", "LIGHT=5", "HANG=6"};
    private static final List<Class<?>> STATIC_TYPES = List.of(int.class, long.class, boolean.class, char.class,
        String.class, int[].class, long[].class, char[].class, byte[].class);
    private static final List<String> NAMES = Arrays.stream(METHODS).map(name -> name.replaceAll("\\(.*", "")).toList();

    private FaceTest() {
    }

    private static void same(String what, Iterable<String> got, String... wanted) {
        TreeSet<String> sorted = new TreeSet<>();
        got.forEach(sorted::add);
        TreeSet<String> due = new TreeSet<>(Arrays.asList(wanted));
        Due.due(what + " " + sorted, sorted.equals(due) ? 1 : 0, 1);
    }

    private static String types(Class<?>[] types) {
        StringBuilder names = new StringBuilder();
        for (Class<?> type : types) {
            names.append(names.length() > 0 ? "," : "").append(type.getName());
        }
        return names.toString();
    }

    private static void methods() {
        List<String> shown = new ArrayList<>();
        for (Method method : JetStarts.class.getDeclaredMethods()) {
            if (!Modifier.isPrivate(method.getModifiers())) {
                shown.add(method.getName() + "(" + types(method.getParameterTypes()) + ")");
                Due.due(method + " answers an int", method.getReturnType() == int.class ? 1 : 0, 1);
                Due.due(method + " is public alone", method.getModifiers(), Modifier.PUBLIC);
            }
        }
        same("methods", shown, METHODS);
    }

    private static void fieldsAndConstructors() throws IllegalAccessException {
        List<String> shown = new ArrayList<>();
        for (Field field : JetStarts.class.getDeclaredFields()) {
            int modifiers = field.getModifiers();
            if (!Modifier.isPrivate(modifiers)) {
                shown.add(field.getName() + "=" + field.getInt(null));
                Due.due(field + "", modifiers, Modifier.PUBLIC | Modifier.STATIC | Modifier.FINAL);
            }
            Due.due(field + " is final, if it is static",
                Modifier.isStatic(modifiers) && !Modifier.isFinal(modifiers) ? 1 : 0, 0);
        }
        same("constants", shown, CONSTANTS);
        Constructor<?>[] constructors = JetStarts.class.getDeclaredConstructors();
        Due.due("constructors", constructors.length, 1);
        Due.due("the constructor is public", constructors[0].getModifiers(), Modifier.PUBLIC);
        Due.due("its parameters", constructors[0].getParameterCount(), 0);
    }

    private static void classes() {
        Due.due("the class", JetStarts.class.getModifiers(), Modifier.PUBLIC | Modifier.FINAL);
        Due.due("its parent", JetStarts.class.getSuperclass() == Object.class ? 1 : 0, 1);
        for (Class<?> inside : JetStarts.class.getDeclaredClasses()) {
            int modifiers = inside.getModifiers();
            Due.due(inside + " is static", Modifier.isStatic(modifiers) ? 1 : 0, 1);
            Due.due(inside + " is not shown", Modifier.isPublic(modifiers) || Modifier.isProtected(modifiers) ? 1 : 0, 0);
        }
    }

    /** Rules 1, 5 and 11 of LANGUAGE.md, in the class and in each class inside it. */
    private static void limits() {
        List<Class<?>> all = new ArrayList<>(Arrays.asList(JetStarts.class.getDeclaredClasses()));
        all.add(JetStarts.class);
        Due.due(all.size() + " classes are some twelve at most", all.size() <= 12 ? 1 : 0, 1);
        for (Class<?> each : all) {
            int fields = 0;
            for (Field field : each.getDeclaredFields()) {
                boolean isStatic = Modifier.isStatic(field.getModifiers());
                fields += isStatic ? 0 : 1;
                boolean isConstant = Modifier.isFinal(field.getModifiers()) && STATIC_TYPES.contains(field.getType());
                Due.due(field + " is a constant, if it is static", isStatic && !isConstant ? 1 : 0, 0);
            }
            Due.due(each + " has " + fields + " fields, twenty at most", fields <= 20 ? 1 : 0, 1);
            for (Method method : each.getDeclaredMethods()) {
                Due.due(method + " takes seven parameters at most", method.getParameterCount() <= 7 ? 1 : 0, 1);
                boolean isFace = Modifier.isPublic(method.getModifiers()) && each == JetStarts.class;
                Due.due(method + " has no name of the face", !isFace && NAMES.contains(method.getName()) ? 1 : 0, 0);
            }
        }
    }

    private static void words() throws IOException {
        String source = Files.readString(Path.of("src/main/java/JetStarts.java"));
        String code = source.replaceAll("(?s)/\\*.*?\\*/", "").replaceAll("//[^\n]*", "").replaceAll("'.'", "' '");
        String[] barred = {"\\bthrow\\b", "\\btry\\b", "\\bcatch\\b", "\\bsynchronized\\b", "\\bassert\\b", "\\bimport\\b",
            "\\bpackage\\b", "->", "::", "\\bequals\\b", "\\bhashCode\\b", "\\btoString\\b", "Exact\\b", "\\bstatic\\s*\\{",
            "\\bObject\\b", "\\bvar\\b", "\\bwhile\\s*\\(true\\)", "@", "\\bSystem\\.(?!arraycopy)", "\\bdouble\\b", "\""};
        for (String word : barred) {
            Matcher matcher = Pattern.compile(word).matcher(code);
            Due.due("the source has " + word, matcher.find() ? 1 : 0, 0);
        }
        Due.due("signs above 127", source.chars().filter(sign -> sign > 127).count(), 0);
    }

    public static void main(String[] args) throws IllegalAccessException, IOException {
        methods();
        fieldsAndConstructors();
        classes();
        limits();
        words();
        Due.end();
    }
}
