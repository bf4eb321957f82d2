import java.io.IOException;
import java.lang.reflect.Constructor;
import java.lang.reflect.Field;
import java.lang.reflect.Method;
import java.lang.reflect.Modifier;
import java.nio.file.Files;
import java.nio.file.Path;
import java.util.ArrayList;
import java.util.Arrays;
import java.util.Collections;
import java.util.HashSet;
import java.util.List;
import java.util.Set;

/** The class's face is the document's and no more, and the source keeps off what LANGUAGE.md rules out. */
public final class FaceTest {
    private static final String[] FACE = {
        "int table(int, int, int, int)", "int ofThing(int, int)", "int acres(int)", "int stain(int, int)",
        "int arm(int, int)", "int might(int, int)", "int holds(int)", "int land(int)", "int act(int, int)",
        "int serve()", "int dinner(int, int, int, int, int)", "int good(int, int)", "int safe(int, int)",
        "int need(int, int)", "int reading(int, int)", "int back(int)", "int strengths(int)",
        "int kinds(int)", "int spots(int)", "long odds(int, int)", "int sheet(int, int, int)",
        "int lose(int)", "int put(int, int, int)", "long cell(int, int, int)",
        "int copy(int, int, int, int, int)", "int tell(int)", "int pass(int)", "int as(int, int)",
        "int trace()", "int fault()", "int many(int)"
    };
    private static final String[] RULED_OUT = {
        "throw", "try", "catch", "synchronized", "assert", "package", "->", "::", "System.out", "static {",
        "String.format", "@Override", "Object", "equals", "hashCode", "toString", "new Random"
    };

    public static void main(String[] args) throws IOException {
        Checks.due("UNKNOWN", TableWar.UNKNOWN, -1);
        Checks.due("OUTSIDE", TableWar.OUTSIDE, -2);
        Checks.due("STATE", TableWar.STATE, -3);
        Checks.due("FULL", TableWar.FULL, -4);
        Checks.due("NONE", TableWar.NONE, -9);
        Checks.due("LOST", TableWar.LOST, Long.MIN_VALUE);
        dueMethods();
        dueFields();
        dueClasses();
        dueSource();
        Checks.end();
    }

    private static void dueMethods() {
        List<String> got = new ArrayList<>();
        for (Method method : TableWar.class.getDeclaredMethods()) {
            int set = method.getModifiers();
            if (Modifier.isPublic(set) && !Modifier.isStatic(set)) {
                got.add(told(method));
            } else {
                Checks.due(method + " is private", Modifier.isPrivate(set) ? 1 : 0, 1);
            }
        }
        List<String> want = new ArrayList<>(Arrays.asList(FACE));
        Collections.sort(got);
        Collections.sort(want);
        Checks.due("the public methods " + got + " are the face's", got.equals(want) ? 1 : 0, 1);
        Constructor<?>[] makers = TableWar.class.getDeclaredConstructors();
        Checks.due("constructors", makers.length, 1);
        Checks.due("public constructor", Modifier.isPublic(makers[0].getModifiers()) ? 1 : 0, 1);
        Checks.due("parameters of it", makers[0].getParameterCount(), 0);
        Checks.due("a final class", Modifier.isFinal(TableWar.class.getModifiers()) ? 1 : 0, 1);
    }

    private static String told(Method method) {
        List<String> types = new ArrayList<>();
        for (Class<?> type : method.getParameterTypes()) {
            types.add(type.getName());
        }
        return method.getReturnType().getName() + " " + method.getName() + "(" + String.join(", ", types) + ")";
    }

    private static void dueFields() {
        Set<String> constants =
            new HashSet<>(Arrays.asList("UNKNOWN", "OUTSIDE", "STATE", "FULL", "NONE", "LOST"));
        for (Field field : TableWar.class.getDeclaredFields()) {
            boolean isPublic = Modifier.isPublic(field.getModifiers());
            boolean isPrivate = Modifier.isPrivate(field.getModifiers());
            Checks.due(field + " is of the face or private",
                constants.contains(field.getName()) == isPublic && isPublic != isPrivate ? 1 : 0, 1);
        }
    }

    /** The names of the face's methods are not borne by any other; classes inside are static and hidden. */
    private static void dueClasses() {
        Set<String> names = new HashSet<>();
        for (String line : FACE) {
            names.add(line.substring(line.indexOf(' ') + 1, line.indexOf('(')));
        }
        Checks.due("names of the face", names.size(), FACE.length);
        for (Method method : TableWar.class.getDeclaredMethods()) {
            boolean isPublic = Modifier.isPublic(method.getModifiers());
            Checks.due(method + " bears a name of the face", names.contains(method.getName()) ? 1 : 0, isPublic ? 1 : 0);
        }
        for (Class<?> inside : TableWar.class.getDeclaredClasses()) {
            int set = inside.getModifiers();
            boolean isHidden = !Modifier.isPublic(set) && !Modifier.isProtected(set);
            Checks.due(inside + " is static and hidden", Modifier.isStatic(set) && isHidden ? 1 : 0, 1);
            for (Method method : inside.getDeclaredMethods()) {
                Checks.due(method + " bears another name", names.contains(method.getName()) ? 1 : 0, 0);
            }
        }
    }

    private static void dueSource() throws IOException {
        String source = Files.readString(Path.of("src/main/java/TableWar.java"));
        for (String word : RULED_OUT) {
            Checks.due("'" + word + "' in the source", source.contains(word) ? 1 : 0, 0);
        }
        Checks.due("signs above 126", source.chars().filter(c -> c > 126).count(), 0);
    }
}
