import java.lang.reflect.Constructor;
import java.lang.reflect.Field;
import java.lang.reflect.Method;
import java.lang.reflect.Modifier;
import java.util.ArrayList;
import java.util.List;
import java.util.Set;
import java.util.TreeSet;

/** The public face is the document's, and nothing beside it can be seen. */
public final class FaceTest {
    private static final String[] FACE = {
        "int setRoom(int,int) IndexOutOfBoundsException IllegalArgumentException IllegalStateException",
        "int setCode(int,int) IndexOutOfBoundsException",
        "int lantern(int) IndexOutOfBoundsException IllegalStateException",
        "int setShow(int,int,int) IndexOutOfBoundsException IllegalArgumentException",
        "int watchman(int,int,int) IndexOutOfBoundsException IllegalArgumentException IllegalStateException",
        "int boat(int,int) IndexOutOfBoundsException IllegalArgumentException IllegalStateException",
        "int send(int,int) IndexOutOfBoundsException IllegalStateException",
        "int carry(int,int) IndexOutOfBoundsException IllegalArgumentException IllegalStateException",
        "int told(int,int) IndexOutOfBoundsException",
        "int about(int,int) IndexOutOfBoundsException",
        "int light(int,int) IndexOutOfBoundsException",
        "int code(int,int) IndexOutOfBoundsException",
        "int place(int,int) IndexOutOfBoundsException",
        "int moon(int) IllegalArgumentException",
        "int count(int) IndexOutOfBoundsException",
        "int pass(int) IllegalArgumentException",
        "int until(int) IndexOutOfBoundsException",
        "int foresee(int,int) IllegalArgumentException IndexOutOfBoundsException",
        "int advise(int) IndexOutOfBoundsException IllegalStateException",
        "int quiet(int) IndexOutOfBoundsException",
        "double mean()",
        "long digest()",
    };

    public static void main(String[] args) {
        Set<String> face = new TreeSet<>();
        Set<String> publicNames = new TreeSet<>();
        Set<String> privateNames = new TreeSet<>();
        for (Method method : CoveSignals.class.getDeclaredMethods()) {
            if (Modifier.isPrivate(method.getModifiers())) {
                privateNames.add(method.getName());
            } else {
                face.add(signature(method));
                publicNames.add(method.getName());
            }
        }
        Check.due("the face is the document's: " + face, face.equals(new TreeSet<>(List.of(FACE))) ? 1 : 0, 1);
        privateNames.retainAll(publicNames);
        Check.due("no private method bears a public name: " + privateNames, privateNames.size(), 0);
        for (Field field : CoveSignals.class.getDeclaredFields()) {
            Check.due(field + " is private", Modifier.isPrivate(field.getModifiers()) ? 1 : 0, 1);
        }
        Constructor<?>[] constructors = CoveSignals.class.getDeclaredConstructors();
        Check.due("constructors", constructors.length, 1);
        Check.due("it is public", Modifier.isPublic(constructors[0].getModifiers()) ? 1 : 0, 1);
        Check.due("without parameters", constructors[0].getParameterCount(), 0);
        int expected = Modifier.PUBLIC | Modifier.FINAL;
        Check.due("the class is public and final", CoveSignals.class.getModifiers(), expected);
        Check.end("FaceTest");
    }

    private static String signature(Method method) {
        List<String> types = new ArrayList<>();
        for (Class<?> type : method.getParameterTypes()) {
            types.add(type.getName());
        }
        StringBuilder text = new StringBuilder();
        text.append(method.getReturnType().getName()).append(' ').append(method.getName());
        text.append('(').append(String.join(",", types)).append(')');
        for (Class<?> type : method.getExceptionTypes()) {
            text.append(' ').append(type.getSimpleName());
        }
        return text.toString();
    }
}
