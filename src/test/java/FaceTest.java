import java.lang.reflect.Constructor;
import java.lang.reflect.Field;
import java.lang.reflect.Method;
import java.lang.reflect.Modifier;
import java.util.Set;
import java.util.TreeSet;

/** The class has the document's face, and nothing else that can be seen from outside. */
public final class FaceTest {
    private static final String[] FACE = {
        "int entry(int) IndexOutOfBoundsException IllegalStateException",
        "int tell(int,int,int,int) IndexOutOfBoundsException IllegalArgumentException IllegalStateException",
        "int delete(int,int) IndexOutOfBoundsException IllegalStateException",
        "int share(int,int,int,int) IndexOutOfBoundsException IllegalArgumentException IllegalStateException",
        "int merge(int,int) IndexOutOfBoundsException IllegalArgumentException",
        "int pass(int) IllegalArgumentException",
        "int state(int,int) IndexOutOfBoundsException",
        "int value(int,int,int,int) IndexOutOfBoundsException",
        "int valueAnew(int,int,int,int) IndexOutOfBoundsException",
        "int values(int,int,int) IndexOutOfBoundsException",
        "int seen(int,int,int,int) IndexOutOfBoundsException",
        "int marks(int,int) IndexOutOfBoundsException",
        "int clashes(int) IndexOutOfBoundsException",
        "float agreement(int,int) IndexOutOfBoundsException",
    };

    private static String line(Method method) {
        StringBuilder text = new StringBuilder(method.getReturnType().getName()).append(' ').append(method.getName()).append('(');
        for (int i = 0; i < method.getParameterCount(); i++) {
            text.append(i == 0 ? "" : ",").append(method.getParameterTypes()[i].getName());
        }
        text.append(')');
        for (Class<?> thrown : method.getExceptionTypes()) text.append(' ').append(thrown.getSimpleName());
        return text.toString();
    }

    public static void main(String[] args) {
        Set<String> wrong = new TreeSet<>();
        Set<String> due = new TreeSet<>(Set.of(FACE));
        Set<String> publicNames = new TreeSet<>();
        for (String line : FACE) publicNames.add(line.substring(line.indexOf(' ') + 1, line.indexOf('(')));
        for (Method method : BraidBook.class.getDeclaredMethods()) {
            boolean isPrivate = Modifier.isPrivate(method.getModifiers());
            if (isPrivate && publicNames.contains(method.getName())) wrong.add("private " + line(method));
            if (!isPrivate && !due.remove(line(method))) wrong.add("not in the document: " + line(method));
        }
        for (String line : due) wrong.add("missing: " + line);
        for (Field field : BraidBook.class.getDeclaredFields()) {
            if (!Modifier.isPrivate(field.getModifiers())) wrong.add("not private: " + field);
            if (Modifier.isStatic(field.getModifiers()) && !Modifier.isFinal(field.getModifiers())) wrong.add("not final: " + field);
        }
        Constructor<?>[] constructors = BraidBook.class.getDeclaredConstructors();
        if (constructors.length != 1 || constructors[0].getParameterCount() != 0 || !Modifier.isPublic(constructors[0].getModifiers())) {
            wrong.add("not just the public constructor");
        }
        int modifiers = BraidBook.class.getModifiers();
        if (!Modifier.isPublic(modifiers) || !Modifier.isFinal(modifiers)) wrong.add("not public and final");
        for (String line : wrong) System.out.println(line);
        if (!wrong.isEmpty()) System.exit(1);
        System.out.println("the face is the document's");
    }
}
