import java.lang.reflect.Constructor;
import java.lang.reflect.Field;
import java.lang.reflect.Method;
import java.lang.reflect.Modifier;
import java.util.Arrays;
import java.util.TreeSet;

/** The public face: what the document lists, and nothing else that is not private. */
final class FaceTest {
    private static final String[] METHODS = {
        "int bin(int, int, int)",
        "int box(int, int, int)",
        "int turns(int, int)",
        "int weight(int, int)",
        "int clear()",
        "int run(int)",
        "int told(int, int)",
        "int plan()",
        "int lay(int, int, int, int, int)",
        "int lift(int)",
        "int place(int, int)",
        "int overlaps()",
        "int relative(int, int)",
        "int support(int)",
        "int centre(int, int)",
        "int tree()",
        "int node(int, int)",
        "int dual(int, int, int)",
        "long need(int, int, int, int)",
        "int proof(int)",
        "int none(int, int, int, int, int)",
    };

    private static final Check CHECK = new Check();

    public static void main(String[] args) {
        constants();
        constructors();
        methods();
        CHECK.end();
    }

    private static void constants() {
        CHECK.due("BAD", PlaceRectangles.BAD, -1);
        CHECK.due("STATE", PlaceRectangles.STATE, -2);
        CHECK.due("FULL", PlaceRectangles.FULL, -3);
        CHECK.due("NONE", PlaceRectangles.NONE, -9);
        TreeSet<String> seen = new TreeSet<>();
        for (Field field : PlaceRectangles.class.getDeclaredFields()) {
            if (!Modifier.isPrivate(field.getModifiers())) {
                seen.add(Modifier.toString(field.getModifiers()) + " " + field.getType() + " " + field.getName());
            }
            if (Modifier.isStatic(field.getModifiers())) {
                CHECK.isTrue(field.getName() + " is final", Modifier.isFinal(field.getModifiers()));
            }
        }
        TreeSet<String> due = new TreeSet<>();
        for (String name : new String[] {"BAD", "STATE", "FULL", "NONE"}) {
            due.add("public static final int " + name);
        }
        same("fields", seen, due);
    }

    private static void constructors() {
        CHECK.isTrue("the class is public and final",
                PlaceRectangles.class.getModifiers() == (Modifier.PUBLIC | Modifier.FINAL));
        Constructor<?>[] all = PlaceRectangles.class.getDeclaredConstructors();
        CHECK.due("constructors", all.length, 1);
        CHECK.due("the constructor's parameters", all[0].getParameterCount(), 0);
        CHECK.isTrue("the constructor is public", Modifier.isPublic(all[0].getModifiers()));
    }

    private static void methods() {
        TreeSet<String> seen = new TreeSet<>();
        TreeSet<String> publicNames = new TreeSet<>();
        for (Method method : PlaceRectangles.class.getDeclaredMethods()) {
            if (!Modifier.isPrivate(method.getModifiers())) {
                String words = Arrays.toString(method.getParameterTypes());
                seen.add(method.getReturnType() + " " + method.getName() + "("
                        + words.substring(1, words.length() - 1) + ")");
                publicNames.add(method.getName());
                CHECK.due(method.getName() + "'s modifiers", method.getModifiers(), Modifier.PUBLIC);
            }
        }
        same("methods", seen, new TreeSet<>(Arrays.asList(METHODS)));
        for (Method method : PlaceRectangles.class.getDeclaredMethods()) {
            if (Modifier.isPrivate(method.getModifiers())) {
                CHECK.isTrue(method.getName() + " bears no public name", !publicNames.contains(method.getName()));
            }
        }
        for (Class<?> inside : PlaceRectangles.class.getDeclaredClasses()) {
            CHECK.isTrue(inside.getName() + " is static", Modifier.isStatic(inside.getModifiers()));
            CHECK.isTrue(inside.getName() + " is hidden", !Modifier.isPublic(inside.getModifiers())
                    && !Modifier.isProtected(inside.getModifiers()));
            for (Method method : inside.getDeclaredMethods()) {
                CHECK.isTrue(inside.getName() + "." + method.getName() + " bears no public name",
                        !publicNames.contains(method.getName()));
                CHECK.isTrue(method.getName() + " takes seven parameters at most", method.getParameterCount() <= 7);
            }
        }
    }

    private static void same(String what, TreeSet<String> seen, TreeSet<String> due) {
        CHECK.isTrue(what + " are " + seen + ", due are " + due, seen.equals(due));
    }
}
