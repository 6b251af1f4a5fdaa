import java.lang.reflect.Constructor;
import java.lang.reflect.Field;
import java.lang.reflect.Method;
import java.lang.reflect.Modifier;
import java.util.Set;
import java.util.TreeSet;

/** The public face: the constants, the constructor and the methods of the document, and nothing else. */
public final class FaceTest {
    private static final Due due = new Due();
    private static final String[] METHODS = {
        "sign5", "becomes3", "drops1", "weight2", "draws2", "of2", "apart3", "look4", "near2", "nearest4", "sorts1",
        "groups2", "twins1", "enough1", "span1", "word3", "cuts1", "shifts2", "clears0", "wordOf2", "at2", "all1",
        "lays2", "lay1", "best1", "settles0", "type1", "clear0", "reads0", "back0", "told1", "digest0"};

    public static void main(String[] args) {
        int modifiers = GestureBook.class.getModifiers();
        due.holds("public and final", Modifier.isPublic(modifiers) && Modifier.isFinal(modifiers));
        constants();
        constructors();
        methods();
        insideClasses();
        due.end();
    }

    private static void constants() {
        due.is("NONE", GestureBook.NONE, -1);
        due.is("BAD", GestureBook.BAD, -2);
        due.is("NO", GestureBook.NO, -3);
        due.is("FULL", GestureBook.FULL, -4);
        int open = 0;
        for (Field field : GestureBook.class.getDeclaredFields()) {
            if (!Modifier.isPrivate(field.getModifiers())) {
                open++;
            }
            boolean isStatic = Modifier.isStatic(field.getModifiers());
            due.holds(field + " is final or not static", !isStatic || Modifier.isFinal(field.getModifiers()));
        }
        due.is("open fields", open, 4);
    }

    private static void constructors() {
        Constructor<?>[] all = GestureBook.class.getDeclaredConstructors();
        due.is("constructors", all.length, 1);
        due.is("its parameters", all[0].getParameterCount(), 0);
        due.holds("it is public", Modifier.isPublic(all[0].getModifiers()));
    }

    private static void methods() {
        Set<String> wanted = new TreeSet<>(Set.of(METHODS));
        Set<String> open = new TreeSet<>();
        for (Method method : GestureBook.class.getDeclaredMethods()) {
            if (!Modifier.isPrivate(method.getModifiers())) {
                open.add(method.getName() + method.getParameterCount());
                Class<?> answer = method.getName().equals("digest") ? long.class : int.class;
                due.holds(method + " answers " + answer, method.getReturnType() == answer);
                due.holds(method + " is public", Modifier.isPublic(method.getModifiers()));
            } else {
                due.holds(method + " has a name of its own", isOwnName(method.getName()));
            }
        }
        due.holds("methods: " + open, open.equals(wanted));
    }

    private static boolean isOwnName(String name) {
        for (String method : METHODS) {
            if (method.substring(0, method.length() - 1).equals(name)) {
                return false;
            }
        }
        return true;
    }

    private static void insideClasses() {
        for (Class<?> inside : GestureBook.class.getDeclaredClasses()) {
            due.holds(inside + " is static", Modifier.isStatic(inside.getModifiers()));
            due.holds(inside + " is not public", !Modifier.isPublic(inside.getModifiers()));
            for (Method method : inside.getDeclaredMethods()) {
                due.holds(method + " has a name of its own", isOwnName(method.getName()));
            }
        }
    }
}
