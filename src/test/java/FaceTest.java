import java.lang.reflect.Constructor;
import java.lang.reflect.Field;
import java.lang.reflect.Method;
import java.lang.reflect.Modifier;
import java.util.Arrays;
import java.util.HashSet;
import java.util.Set;
import java.util.TreeSet;

/** The face of the document is there, whole, and nothing else can be seen from outside. */
public final class FaceTest {
    private static final String[] FACE = {
        "int enter(int, int) IllegalArgumentException IllegalStateException",
        "int drive(int, int) NoSuchElementException IllegalArgumentException",
        "int silence(int, boolean) NoSuchElementException",
        "int authorise(int) NoSuchElementException IllegalStateException",
        "int relent(int) NoSuchElementException IllegalStateException",
        "int lose(int, int) NoSuchElementException IllegalArgumentException IllegalStateException",
        "int confirm(int) NoSuchElementException IllegalStateException",
        "int clear(int) NoSuchElementException",
        "int tick(int) IllegalArgumentException",
        "int state(int) IllegalArgumentException",
        "int detected(int) IllegalArgumentException",
        "int vehicle(int, int) NoSuchElementException IllegalArgumentException",
        "int count(int) IllegalArgumentException",
    };

    private FaceTest() {
    }

    public static void main(String[] args) {
        methodsAreTheDocuments();
        constructorIsTheDocuments();
        fieldsAreHidden();
        classIsFinal();
        Due.end();
    }

    private static void methodsAreTheDocuments() {
        Set<String> want = new TreeSet<>(Arrays.asList(FACE));
        Set<String> got = new TreeSet<>();
        Set<String> names = new HashSet<>();
        for (Method method : HybridTrack.class.getDeclaredMethods()) {
            if (!Modifier.isPrivate(method.getModifiers())) {
                got.add(faceOf(method));
                names.add(method.getName());
            }
        }
        if (!got.equals(want)) {
            Due.tell("the face is " + got + ", due is " + want);
        }
        for (Method method : HybridTrack.class.getDeclaredMethods()) {
            if (Modifier.isPrivate(method.getModifiers()) && names.contains(method.getName())) {
                Due.tell("a private method bears a public one's name: " + method.getName());
            }
        }
    }

    private static String faceOf(Method method) {
        StringBuilder face = new StringBuilder(method.getReturnType().getSimpleName());
        face.append(' ').append(method.getName()).append('(');
        String comma = "";
        for (Class<?> type : method.getParameterTypes()) {
            face.append(comma).append(type.getSimpleName());
            comma = ", ";
        }
        face.append(')');
        for (Class<?> type : method.getExceptionTypes()) {
            face.append(' ').append(type.getSimpleName());
        }
        if (!Modifier.isPublic(method.getModifiers()) || Modifier.isStatic(method.getModifiers())) {
            face.append(" (not public, or static)");
        }
        return face.toString();
    }

    private static void constructorIsTheDocuments() {
        Constructor<?>[] all = HybridTrack.class.getDeclaredConstructors();
        if (all.length != 1 || all[0].getParameterCount() != 0 || !Modifier.isPublic(all[0].getModifiers())) {
            Due.tell("the constructors are " + Arrays.toString(all));
        }
    }

    private static void fieldsAreHidden() {
        for (Field field : HybridTrack.class.getDeclaredFields()) {
            if (!Modifier.isPrivate(field.getModifiers())) {
                Due.tell("a field can be seen: " + field.getName());
            }
            if (Modifier.isStatic(field.getModifiers()) && !Modifier.isFinal(field.getModifiers())) {
                Due.tell("a static field is not final: " + field.getName());
            }
        }
    }

    private static void classIsFinal() {
        int modifiers = HybridTrack.class.getModifiers();
        if (!Modifier.isPublic(modifiers) || !Modifier.isFinal(modifiers)) {
            Due.tell("the class is not public and final");
        }
    }
}
