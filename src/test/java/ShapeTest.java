import java.io.IOException;
import java.lang.reflect.Constructor;
import java.lang.reflect.Field;
import java.lang.reflect.Method;
import java.lang.reflect.Modifier;
import java.nio.file.Files;
import java.nio.file.Path;
import java.util.ArrayList;
import java.util.Arrays;
import java.util.Collections;
import java.util.List;
import java.util.Set;
import java.util.TreeSet;

/** 'The public face' of the document, member by member, and what of LANGUAGE.md a machine can look at. */
public final class ShapeTest {
    private static final List<String> FACE = List.of(
        "public static final int NONE",
        "public ThreeMills()",
        "public int answer()",
        "public int cost(int) throws NoSuchElementException",
        "public int count(int) throws NoSuchElementException",
        "public int fault(int) throws NoSuchElementException",
        "public int feed(int,int,int,int,int)",
        "public int function(int,int) throws NoSuchElementException",
        "public int needs(int,int,boolean) throws NoSuchElementException",
        "public int program(int) throws IllegalArgumentException",
        "public int run(int,int)",
        "public int text(int)",
        "public int told(int) throws NoSuchElementException",
        "public int type()");
    private static final Path SOURCE = Path.of("src/main/java/ThreeMills.java");

    private ShapeTest() {
    }

    public static void main(String[] args) throws IOException {
        face();
        classesInside();
        staticFields();
        sizes();
        source(Files.readAllLines(SOURCE));
        Calls.end("ShapeTest");
    }

    private static void face() {
        List<String> members = new ArrayList<>();
        for (Field field : ThreeMills.class.getDeclaredFields()) {
            addIfSeen(members, field.getModifiers(), field.toGenericString());
        }
        for (Constructor<?> constructor : ThreeMills.class.getDeclaredConstructors()) {
            addIfSeen(members, constructor.getModifiers(), constructor.toGenericString());
        }
        for (Method method : ThreeMills.class.getDeclaredMethods()) {
            addIfSeen(members, method.getModifiers(), method.toGenericString());
        }
        List<String> due = new ArrayList<>(FACE);
        Collections.sort(due);
        Collections.sort(members);
        Calls.due("the face", members.toString(), due.toString());
        Calls.due("the class", Modifier.toString(ThreeMills.class.getModifiers()), "public final");
        Calls.due("what it is made from", ThreeMills.class.getSuperclass().getName(), "java.lang.Object");
        Calls.due("its interfaces", ThreeMills.class.getInterfaces().length, 0);
        Calls.due("its package", ThreeMills.class.getPackageName(), "");
    }

    private static void addIfSeen(List<String> members, int modifiers, String told) {
        if (!Modifier.isPrivate(modifiers)) {
            members.add(told.replace("ThreeMills.", "").replace("java.util.", "").replace("java.lang.", ""));
        }
    }

    private static List<Class<?>> classes() {
        List<Class<?>> classes = new ArrayList<>();
        classes.add(ThreeMills.class);
        classes.addAll(Arrays.asList(ThreeMills.class.getDeclaredClasses()));
        return classes;
    }

    /** Rules 1 and 2: they are static and not public, and no method of theirs bears a name of the face. */
    private static void classesInside() {
        Set<String> names = new TreeSet<>();
        for (Method method : ThreeMills.class.getDeclaredMethods()) {
            if (Modifier.isPublic(method.getModifiers())) {
                names.add(method.getName());
            }
        }
        Calls.due("names of the face", names.size(), 12);
        for (Class<?> inside : classes()) {
            if (inside != ThreeMills.class) {
                int modifiers = inside.getModifiers();
                Calls.due(inside + " is static", Modifier.isStatic(modifiers) ? 1 : 0, 1);
                Calls.due(inside + " is seen", Modifier.isPublic(modifiers) || Modifier.isProtected(modifiers) ? 1 : 0, 0);
                Calls.due(inside + " has classes", inside.getDeclaredClasses().length, 0);
            }
            for (Method method : inside.getDeclaredMethods()) {
                boolean borrowed = names.contains(method.getName()) && !Modifier.isPublic(method.getModifiers());
                Calls.due(method + " bears a name of the face", borrowed ? 1 : 0, 0);
            }
        }
    }

    /** Rule 5. */
    private static void staticFields() {
        Set<Class<?>> allowed = Set.of(int.class, long.class, boolean.class, char.class, String.class);
        for (Class<?> inside : classes()) {
            for (Field field : inside.getDeclaredFields()) {
                if (Modifier.isStatic(field.getModifiers())) {
                    Calls.due(field + " is final", Modifier.isFinal(field.getModifiers()) ? 1 : 0, 1);
                    Calls.due(field + " is a constant", allowed.contains(field.getType()) ? 1 : 0, 1);
                }
            }
        }
    }

    /** Rule 11: parameters, classes and fields. */
    private static void sizes() {
        Calls.due("more than twelve classes", classes().size() > 12 ? 1 : 0, 0);
        for (Class<?> inside : classes()) {
            int fields = 0;
            for (Field field : inside.getDeclaredFields()) {
                fields += Modifier.isStatic(field.getModifiers()) ? 0 : 1;
            }
            Calls.due(inside + " has more than twenty fields", fields > 20 ? 1 : 0, 0);
            for (Method method : inside.getDeclaredMethods()) {
                Calls.due(method + " takes more than seven", method.getParameterCount() > 7 ? 1 : 0, 0);
            }
        }
    }

    /** Rules 3, 4, 6 and 11, line by line: what may not stand there at all, and methods' lengths. */
    private static void source(List<String> lines) {
        List<String> outside = List.of("catch", "try {", "finally", "synchronized", "assert", "Exact(", "->", "::",
            "hashCode", "toString", "System.out", "System.nano", "System.current", "Object", "null", "float", "double");
        int from = 0;
        for (int i = 0; i < lines.size(); i++) {
            String line = lines.get(i);
            String code = line.replaceAll("//.*|^\\s*/?\\*.*", "").replaceAll("\"[^\"]*\"|'.'", "");
            for (String word : outside) {
                Calls.due("line " + (i + 1) + " has " + word, code.contains(word) ? 1 : 0, 0);
            }
            if (line.startsWith("import ")) {
                boolean listed = line.equals("import java.util.Arrays;")
                    || line.equals("import java.util.NoSuchElementException;");
                Calls.due(line + " is listed", listed ? 1 : 0, 1);
            }
            // Methods stand four or eight columns in; they end where a bracket closes as far in.
            if (line.matches("( {4}| {8})[A-Za-z].*\\).*\\{")) {
                from = i;
            } else if (line.matches("( {4}| {8})\\}")) {
                Calls.due("the method at line " + (from + 1) + " is long", i - from > 60 ? 1 : 0, 0);
            }
        }
    }
}
