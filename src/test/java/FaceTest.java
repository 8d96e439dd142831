import java.lang.reflect.Constructor;
import java.lang.reflect.Field;
import java.lang.reflect.Member;
import java.lang.reflect.Method;
import java.lang.reflect.Modifier;
import java.util.Arrays;
import java.util.TreeSet;

/** The public face, and the rules of LANGUAGE.md that are about members. */
public final class FaceTest {
    private static final String[] METHODS = {"hub 2", "unit 2", "takeOff 1", "set 3", "hubOf 2", "unitOf 2",
        "unitAt 2", "send 5", "pass 1", "slotAt 3", "outAt 2", "readingAt 3", "heldBy 3", "nextOut 0", "foresee 1",
        "count 1", "undo 0", "type 1", "clearText 0", "fault 1", "play 0"};

    public static void main(String[] args) throws Exception {
        Class<?> face = PhasorTree.class;
        Check.holds("public and final", Modifier.isPublic(face.getModifiers()) && Modifier.isFinal(face.getModifiers()));
        publicMethods(face);
        constants(face);
        Constructor<?>[] constructors = face.getDeclaredConstructors();
        Check.due("constructors", constructors.length, 1);
        Check.holds("a public one", Modifier.isPublic(constructors[0].getModifiers()));
        Check.due("its parameters", constructors[0].getParameterCount(), 0);
        for (Class<?> inside : face.getDeclaredClasses()) {
            classInside(inside);
        }
        Check.holds("some twelve classes", face.getDeclaredClasses().length < 14);
        Check.end();
    }

    private static void publicMethods(Class<?> face) {
        TreeSet<String> names = new TreeSet<>();
        for (Method method : face.getDeclaredMethods()) {
            if (isPrivate(method)) {
                Check.holds("private " + method.getName() + " bears no public name", !isPublicName(method.getName()));
                continue;
            }
            names.add(method.getName() + " " + method.getParameterCount());
            Check.holds(method + " is public", Modifier.isPublic(method.getModifiers()));
            Check.holds(method + " is not static", !Modifier.isStatic(method.getModifiers()));
            Check.holds(method + " returns int", method.getReturnType() == int.class);
            for (Class<?> type : method.getParameterTypes()) {
                Check.holds(method + " takes int", type == int.class);
            }
        }
        Check.holds("its methods are " + names, names.equals(new TreeSet<>(Arrays.asList(METHODS))));
    }

    private static void constants(Class<?> face) throws Exception {
        TreeSet<String> names = new TreeSet<>();
        for (Field field : face.getDeclaredFields()) {
            if (!isPrivate(field)) {
                names.add(field.getName() + " " + field.getInt(null));
                Check.due(field.getName(), field.getModifiers(), Modifier.PUBLIC | Modifier.STATIC | Modifier.FINAL);
            } else if (Modifier.isStatic(field.getModifiers())) {
                Check.holds(field.getName() + " is final", Modifier.isFinal(field.getModifiers()));
            }
        }
        Check.holds("its constants are " + names, names.equals(new TreeSet<>(Arrays.asList("INVALID_ARGUMENT -1000001",
                "NOT_POSSIBLE -1000002", "LIMIT_REACHED -1000003", "NOT_FOUND -1000004"))));
    }

    private static void classInside(Class<?> inside) {
        Check.holds(inside + " is static", Modifier.isStatic(inside.getModifiers()));
        Check.holds(inside + " is not public", !Modifier.isPublic(inside.getModifiers()));
        for (Method method : inside.getDeclaredMethods()) {
            Check.holds(method + " bears no public name", !isPublicName(method.getName()));
            Check.holds(method + " has at most seven parameters", method.getParameterCount() <= 7);
        }
        Check.holds(inside + " has some twenty fields", inside.getDeclaredFields().length <= 24);
    }

    private static boolean isPrivate(Member member) {
        return Modifier.isPrivate(member.getModifiers());
    }

    private static boolean isPublicName(String name) {
        for (String method : METHODS) {
            if (method.startsWith(name + " ")) {
                return true;
            }
        }
        return false;
    }
}
