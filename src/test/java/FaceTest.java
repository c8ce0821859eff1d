import java.lang.reflect.Constructor;
import java.lang.reflect.Field;
import java.lang.reflect.Method;
import java.lang.reflect.Modifier;
import java.util.Arrays;
import java.util.TreeSet;

/** The face of the class: just the document's members can be seen from outside. */
public final class FaceTest {
    private static final String[] METHODS = {
        "int addObject(int, int, int) IllegalArgumentException IllegalStateException",
        "int moveTo(int) IndexOutOfBoundsException",
        "int objects()",
        "int noun(int) IndexOutOfBoundsException",
        "int adjective(int) IndexOutOfBoundsException",
        "int place(int) IndexOutOfBoundsException",
        "boolean isOpen(int) IndexOutOfBoundsException",
        "int objectsAt(int) IndexOutOfBoundsException",
        "int room()",
        "int visible()",
        "int suitable(int) IndexOutOfBoundsException",
        "int fitting(int, int) IndexOutOfBoundsException",
        "int candidates()",
        "int it()",
        "int them()",
        "int append(int) IllegalArgumentException IllegalStateException",
        "int appendWord(int) IndexOutOfBoundsException IllegalStateException",
        "int clearBuffer()",
        "int firstError()",
        "int enter() IllegalArgumentException",
        "int ifEntered() IllegalArgumentException",
        "int executed()",
        "int failed()",
        "int asked()",
        "int undo() IllegalStateException",
        "int savedStates()",
        "long digest()",
    };

    public static void main(String[] args) {
        Class<?> face = AdventureParser.class;
        int modifiers = face.getModifiers();
        Check.due("public and final", Modifier.isPublic(modifiers) && Modifier.isFinal(modifiers), true);
        methods(face);
        constructors(face);
        fields(face);
        insideClasses(face);
        Check.finish("FaceTest");
    }

    private static void methods(Class<?> face) {
        TreeSet<String> seen = new TreeSet<>();
        TreeSet<String> publicNames = new TreeSet<>();
        TreeSet<String> privateNames = new TreeSet<>();
        for (Method method : face.getDeclaredMethods()) {
            if (Modifier.isPrivate(method.getModifiers())) {
                privateNames.add(method.getName());
                continue;
            }
            publicNames.add(method.getName());
            seen.add(written(method));
            Check.due(method + " is public", Modifier.isPublic(method.getModifiers()), true);
            Check.due(method + " is static", Modifier.isStatic(method.getModifiers()), false);
        }
        TreeSet<String> due = new TreeSet<>(Arrays.asList(METHODS));
        Check.due("methods " + seen + " are " + due, seen.equals(due), true);
        privateNames.retainAll(publicNames);
        Check.due("private methods with public names " + privateNames, privateNames.size(), 0);
    }

    private static String written(Method method) {
        StringBuilder text = new StringBuilder();
        text.append(method.getReturnType()).append(' ').append(method.getName()).append('(');
        for (int k = 0; k < method.getParameterCount(); k++) {
            text.append(k > 0 ? ", " : "").append(method.getParameterTypes()[k]);
        }
        text.append(')');
        for (Class<?> thrown : method.getExceptionTypes()) {
            text.append(' ').append(thrown.getSimpleName());
        }
        return text.toString();
    }

    private static void constructors(Class<?> face) {
        Constructor<?>[] constructors = face.getDeclaredConstructors();
        Check.due("constructors", constructors.length, 1);
        Check.due("public constructor without parameters", constructors[0].getParameterCount() == 0
                && Modifier.isPublic(constructors[0].getModifiers()), true);
    }

    private static void fields(Class<?> face) {
        for (Field field : face.getDeclaredFields()) {
            int modifiers = field.getModifiers();
            boolean constant = field.getName().equals("NONE");
            Check.due(field + " is private", Modifier.isPrivate(modifiers), !constant);
            Check.due(field + " is public", Modifier.isPublic(modifiers), constant);
            Check.due(field + " is final if static",
                    Modifier.isFinal(modifiers) || !Modifier.isStatic(modifiers), true);
        }
        Check.due("NONE", AdventureParser.NONE, -1);
    }

    private static void insideClasses(Class<?> face) {
        for (Class<?> inside : face.getDeclaredClasses()) {
            int modifiers = inside.getModifiers();
            Check.due(inside + " is static", Modifier.isStatic(modifiers), true);
            Check.due(inside + " cannot be seen",
                    Modifier.isPublic(modifiers) || Modifier.isProtected(modifiers), false);
        }
    }

    private FaceTest() {
    }
}
