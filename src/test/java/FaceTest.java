import java.lang.reflect.Constructor;
import java.lang.reflect.Field;
import java.lang.reflect.Method;
import java.lang.reflect.Modifier;
import java.util.Set;
import java.util.TreeSet;

/** The face of the class is the document's and has nothing else (LANGUAGE.md, rules 1 and 5). */
public final class FaceTest {
    private static final Set<String> FACE = Set.of(
        "public boolean EntityDesk.put(long,int)", "public int EntityDesk.declare(int)",
        "public int EntityDesk.expand(int)", "public int EntityDesk.place()",
        "public int EntityDesk.given(int)", "public int EntityDesk.text(int,int)",
        "public int EntityDesk.count(int)");

    private static int wrong = 0;

    public static void main(String[] args) {
        due("class", Modifier.toString(EntityDesk.class.getModifiers()), "public final");
        due("methods", openMethods().toString(), new TreeSet<>(FACE).toString());
        due("constructors", openConstructors().toString(), "[public EntityDesk()]");
        lookAtFields(EntityDesk.class);
        lookAtNames(EntityDesk.class);
        for (Class<?> inside : EntityDesk.class.getDeclaredClasses()) {
            int modifiers = inside.getModifiers();
            if (Modifier.isPublic(modifiers) || Modifier.isProtected(modifiers) || !Modifier.isStatic(modifiers)) {
                tell(inside + " is open or not static");
            }
            lookAtFields(inside);
            lookAtNames(inside);
        }
        System.out.println(wrong == 0 ? "the face is as due" : wrong + " things are not as due");
        if (wrong != 0) {
            System.exit(1);
        }
    }

    private static void tell(String what) {
        wrong++;
        System.out.println(what);
    }

    private static void due(String what, String got, String want) {
        if (!got.equals(want)) {
            tell(what + ": " + got + ", due is " + want);
        }
    }

    private static Set<String> openMethods() {
        Set<String> open = new TreeSet<>();
        for (Method method : EntityDesk.class.getDeclaredMethods()) {
            if (!Modifier.isPrivate(method.getModifiers())) {
                open.add(method.toString());
            }
        }
        return open;
    }

    private static Set<String> openConstructors() {
        Set<String> open = new TreeSet<>();
        for (Constructor<?> constructor : EntityDesk.class.getDeclaredConstructors()) {
            if (!Modifier.isPrivate(constructor.getModifiers())) {
                open.add(constructor.toString());
            }
        }
        return open;
    }

    private static void lookAtFields(Class<?> of) {
        for (Field field : of.getDeclaredFields()) {
            if (!Modifier.isPrivate(field.getModifiers())) {
                tell(field + " is open");
            }
            if (Modifier.isStatic(field.getModifiers()) && !Modifier.isFinal(field.getModifiers())) {
                tell(field + " is static and not final");
            }
        }
    }

    private static void lookAtNames(Class<?> of) {
        for (Method method : of.getDeclaredMethods()) {
            boolean hidden = of != EntityDesk.class || Modifier.isPrivate(method.getModifiers());
            if (hidden && FACE.stream().anyMatch(one -> one.contains("." + method.getName() + "("))) {
                tell(method + " bears a name of the face");
            }
        }
    }
}
