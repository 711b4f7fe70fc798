import java.lang.reflect.Constructor;
import java.lang.reflect.Field;
import java.lang.reflect.Method;
import java.lang.reflect.Modifier;
import java.util.ArrayList;
import java.util.Arrays;
import java.util.Collections;
import java.util.List;
import java.util.Set;
import java.util.TreeSet;
import java.util.stream.Collectors;

/** The public face as the document has it, and what LANGUAGE.md says of members and classes. */
public final class FaceTest {
    private static final String N = "NoSuchElementException";
    private static final String I = "IllegalArgumentException";
    private static final String[] FACE = {
        "int feed 5", "int wall 1 " + I, "int fault 0", "int told 1 " + I, "int clock 2 " + N + " " + I, "int hearing 2 " + N + " " + I,
        "int apart 2 " + N + " " + I, "int pull 1 " + N, "int days 1 " + I, "int undo 1 " + I, "int step 2 " + N + " " + I, "int right 0",
        "int groups 0", "int off 2 " + N + " " + I, "int hang 2 " + N, "int hook 2 " + N + " " + I, "boolean standing 1 " + I,
        "int pushed 2 " + I, "int beginnings 4 " + N + " " + I, "int away 2 " + N + " " + I, "int hold 1 " + I, "int hung 3 " + I,
        "int own 5 " + N + " " + I, "int look 3 " + N + " " + I, "int book 2 " + N + " " + I, "int infected 1 " + I,
        "boolean fraud 2 " + N + " " + I, "int stays 3 " + N + " " + I, "int drawn 4 " + N + " " + I, "int comes 4 " + N + " " + I,
        "int leader 1 " + I, "int better 2 " + I, "int wanted 4 " + N + " " + I, "int sale 2 " + N + " " + I, "int honest 1 " + I,
        "int bound 0", "int winter 3 " + N + " " + I, "int winters 4 " + N + " " + I, "int image 0", "int restore 0", "int count 1"};

    private FaceTest() {
    }

    public static void main(String[] args) {
        Class<?> face = WallClocks.class;
        Check.due("the class is public and final", Modifier.PUBLIC | Modifier.FINAL, face::getModifiers);
        Check.due("the constructors", "[public WallClocks()]", () -> Arrays.stream(face.getDeclaredConstructors())
                .map(Constructor::toString).collect(Collectors.toList()));
        Check.due("the methods", new TreeSet<>(Arrays.asList(FACE)), () -> openMethods(face));
        Check.due("the constants", "[public static final int WallClocks.NONE, public static final int WallClocks.VOID]", () -> openFields(face));
        classesInside(face);
        Check.end();
    }

    private static Set<String> openMethods(Class<?> face) {
        Set<String> found = new TreeSet<>();
        for (Method method : face.getDeclaredMethods()) {
            if (!Modifier.isPrivate(method.getModifiers())) {
                String thrown = Arrays.stream(method.getExceptionTypes()).map(e -> " " + e.getSimpleName()).collect(Collectors.joining());
                boolean plain = Modifier.isPublic(method.getModifiers()) && !Modifier.isStatic(method.getModifiers())
                        && Arrays.stream(method.getParameterTypes()).allMatch(p -> p == int.class);
                found.add((plain ? "" : "odd: ") + method.getReturnType() + " " + method.getName() + " " + method.getParameterCount() + thrown);
            }
        }
        return found;
    }

    private static List<String> openFields(Class<?> face) {
        List<String> found = new ArrayList<>();
        for (Field field : face.getDeclaredFields()) {
            if (!Modifier.isPrivate(field.getModifiers())) {
                found.add(field.toString());
            }
        }
        Collections.sort(found);
        return found;
    }

    private static void classesInside(Class<?> face) {
        Set<String> names = openMethods(face).stream().map(m -> m.split(" ")[1]).collect(Collectors.toSet());
        List<Class<?>> all = new ArrayList<>(List.of(face.getDeclaredClasses()));
        Check.due("at most twelve classes", true, () -> all.size() + 1 <= 12);
        for (Class<?> inside : all) {
            Check.due(inside + " is static", true, () -> Modifier.isStatic(inside.getModifiers()));
            Check.due(inside + " has no method with a name of the face", "[]", () -> Arrays.stream(inside.getDeclaredMethods())
                    .map(Method::getName).filter(names::contains).collect(Collectors.toList()));
        }
        all.add(face);
        for (Class<?> each : all) {
            Check.due(each + " has at most twenty fields", true, () -> Arrays.stream(each.getDeclaredFields())
                    .filter(f -> !Modifier.isStatic(f.getModifiers())).count() <= 20);
            Check.due(each + " has no method with more than seven parameters", true, () -> Arrays.stream(each.getDeclaredMethods())
                    .allMatch(m -> m.getParameterCount() <= 7));
            Check.due(each + " has no static field that is not final", true, () -> Arrays.stream(each.getDeclaredFields())
                    .filter(f -> Modifier.isStatic(f.getModifiers())).allMatch(f -> Modifier.isFinal(f.getModifiers())));
        }
    }
}
