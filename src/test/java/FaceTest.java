import java.lang.reflect.Constructor;
import java.lang.reflect.Field;
import java.lang.reflect.Method;
import java.lang.reflect.Modifier;
import java.util.Arrays;
import java.util.Set;
import java.util.TreeSet;

/** The public face of the document, and nothing more. */
final class FaceTest {
    private static final String[] METHODS = {
        "int room(int)", "int fount(int,int)", "int width(int,int,int)", "int kernRow(int,int,int)",
        "int kern(int,int,int,int)", "int join(int,int,int,int,int)", "int ornament(int,int,int)",
        "int spacing(int,int,int,int,int)", "int buy(int,int,int,int)", "int text(int,int)",
        "int sign(int,int,int)", "int note(int,int)", "int take(int,int,int,int)", "int putBack(int)",
        "int stack(int,int)", "int ask(int,int)", "int added(int,int)", "int tray(int,int)",
        "int lay(int,int)", "int pick(int,int)", "int set(int,int,int)", "int drop(int)",
        "int line(int,int)", "int sortOf(int,int,int)", "int makeup(int)", "int page(int,int)",
        "int noteOf(int,int)", "int lock()", "int forme(int)", "long print(int)", "int distribute(int)",
        "int undo()", "int status()", "int left(int,int,int)", "int trace(int)", "int told(int)",
    };

    public static void main(String[] args) {
        constants();
        members();
        Due.end();
    }

    private static void constants() {
        Due.is("BAD", TypeRoom.BAD, -1);
        Due.is("STATE", TypeRoom.STATE, -2);
        Due.is("FULL", TypeRoom.FULL, -3);
        Due.is("NONE", TypeRoom.NONE, -4);
    }

    private static void members() {
        Class<?> face = TypeRoom.class;
        Due.isTrue("public and final", Modifier.isPublic(face.getModifiers()) && Modifier.isFinal(face.getModifiers()));
        Set<String> open = new TreeSet<>();
        Set<String> hidden = new TreeSet<>();
        for (Method method : face.getDeclaredMethods()) {
            if (Modifier.isPrivate(method.getModifiers())) {
                hidden.add(method.getName());
            } else {
                open.add(signature(method));
                Due.isTrue(method + " is public", Modifier.isPublic(method.getModifiers()));
            }
        }
        Due.isTrue("the methods of the document: " + open, open.equals(new TreeSet<>(Arrays.asList(METHODS))));
        for (String method : METHODS) {
            String name = method.substring(method.indexOf(' ') + 1, method.indexOf('('));
            Due.isTrue("no private method is called " + name, !hidden.contains(name));
        }
        for (Field field : face.getDeclaredFields()) {
            boolean isConstant = Set.of("BAD", "STATE", "FULL", "NONE").contains(field.getName());
            Due.isTrue(field + " is as open as it should be", Modifier.isPublic(field.getModifiers()) == isConstant
                    && Modifier.isPrivate(field.getModifiers()) != isConstant);
        }
        Constructor<?>[] constructors = face.getDeclaredConstructors();
        Due.is("constructors", constructors.length, 1);
        for (Class<?> inside : face.getDeclaredClasses()) {
            Due.isTrue(inside + " is static and not public", Modifier.isStatic(inside.getModifiers())
                    && !Modifier.isPublic(inside.getModifiers()) && !Modifier.isProtected(inside.getModifiers()));
        }
        Due.isTrue("some twelve classes", face.getDeclaredClasses().length <= 12);
    }

    private static String signature(Method method) {
        StringBuilder text = new StringBuilder(method.getReturnType().getName());
        text.append(' ').append(method.getName()).append('(');
        Class<?>[] types = method.getParameterTypes();
        for (int i = 0; i < types.length; i++) {
            text.append(i == 0 ? "" : ",").append(types[i].getName());
        }
        return text.append(')').toString();
    }
}
