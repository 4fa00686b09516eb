import java.lang.reflect.Constructor;
import java.lang.reflect.Field;
import java.lang.reflect.Method;
import java.lang.reflect.Modifier;
import java.util.NoSuchElementException;
import java.util.TreeSet;

/** The class has the document's face and no other member that can be seen from outside. */
public final class FaceTest {
    private static final String[] FACE = {
        "boolean end(int)", "boolean move(int,int)", "int branch(int,int)", "int copy(int,int)",
        "int effect(int,int,int,int,int)", "int factor(int,int,int)", "int fault()",
        "int feed(int,int,int,int,int)", "int flatters(int,int,int,int)", "int grow(int)",
        "int how(int,int,int)", "int mix(int,int,int)", "int mover(int,int,int)",
        "int needs(int,int,int)", "int node(int,int)", "int now(int)", "int order(int)",
        "int set(int,int,int,int)", "int text()", "int undo()", "int value(int,int)",
        "int would(int,int,int,int)",
    };

    public static void main(String[] args) {
        Class<?> face = VarianceBridge.class;
        Check.due("public", Modifier.isPublic(face.getModifiers()), true);
        Check.due("final", Modifier.isFinal(face.getModifiers()), true);
        Check.due("NONE", VarianceBridge.NONE, -1);
        checkMethods(face);
        checkFields(face);
        Constructor<?>[] constructors = face.getDeclaredConstructors();
        Check.due("constructors", constructors.length, 1);
        Check.due("constructor is public", Modifier.isPublic(constructors[0].getModifiers()), true);
        Check.due("its parameters", constructors[0].getParameterCount(), 0);
        Check.due("no package", face.getPackageName().isEmpty(), true);
        Check.due("it is of no other class", face.getSuperclass() == Object.class, true);
        Check.due("and implements none", face.getInterfaces().length, 0);
        checkThrows(face);
        Check.finish("FaceTest");
    }

    private static void checkMethods(Class<?> face) {
        TreeSet<String> seen = new TreeSet<>();
        TreeSet<String> names = new TreeSet<>();
        for (Method method : face.getDeclaredMethods()) {
            if (!Modifier.isPrivate(method.getModifiers())) {
                seen.add(told(method));
                names.add(method.getName());
            }
        }
        for (String method : FACE) {
            Check.due("the face has " + method, seen.remove(method), true);
        }
        Check.due("further methods " + seen, seen.size(), 0);
        for (Class<?> inside : face.getDeclaredClasses()) {
            Check.due(inside.getName() + " is static", Modifier.isStatic(inside.getModifiers()), true);
            boolean seenFromOutside = (inside.getModifiers() & (Modifier.PUBLIC | Modifier.PROTECTED)) != 0;
            Check.due(inside.getName() + " is public or protected", seenFromOutside, false);
            for (Method method : inside.getDeclaredMethods()) {
                Check.due("a name of the face in " + inside, names.contains(method.getName()), false);
            }
        }
        for (Method method : face.getDeclaredMethods()) {
            boolean hidden = Modifier.isPrivate(method.getModifiers());
            Check.due("private " + method.getName(), hidden && names.contains(method.getName()), false);
        }
    }

    /** node() alone says that it throws, and what. */
    private static void checkThrows(Class<?> face) {
        for (Method method : face.getDeclaredMethods()) {
            Class<?>[] told = method.getExceptionTypes();
            boolean isNode = method.getName().equals("node");
            Check.due(method.getName() + " says what it throws", told.length, isNode ? 1 : 0);
            Check.due("it is the right one", isNode && told[0] != NoSuchElementException.class, false);
        }
    }

    private static void checkFields(Class<?> face) {
        for (Field field : face.getDeclaredFields()) {
            boolean isNone = field.getName().equals("NONE");
            Check.due(field.getName() + " is private", Modifier.isPrivate(field.getModifiers()), !isNone);
            if (Modifier.isStatic(field.getModifiers())) {
                Check.due(field.getName() + " is final", Modifier.isFinal(field.getModifiers()), true);
            }
        }
    }

    private static String told(Method method) {
        StringBuilder text = new StringBuilder();
        text.append(method.getReturnType().getName()).append(' ').append(method.getName()).append('(');
        String comma = "";
        for (Class<?> type : method.getParameterTypes()) {
            text.append(comma).append(type.getName());
            comma = ",";
        }
        return text.append(')').toString();
    }
}
