import java.lang.reflect.Constructor;
import java.lang.reflect.Field;
import java.lang.reflect.Method;
import java.lang.reflect.Modifier;
import java.util.Arrays;
import java.util.TreeSet;

/** The document's face, and rule 1 of LANGUAGE.md: no other member can be seen from outside. */
public final class FaceTest {
    private static final Due due = new Due();
    private static final String[] FACE = {
        "int refer(int,int) IllegalArgumentException IllegalStateException UnsupportedOperationException",
        "void clear(boolean)",
        "void start(int) IndexOutOfBoundsException",
        "void edit(int,int) IllegalStateException IllegalArgumentException UnsupportedOperationException",
        "int finish() IllegalStateException UnsupportedOperationException",
        "int reads()",
        "int about(int,int,boolean) IndexOutOfBoundsException IllegalArgumentException",
        "int base(int,int,boolean) IndexOutOfBoundsException",
        "int pack()",
        "int blocks()",
        "int size()",
        "int at(int) IndexOutOfBoundsException",
        "void corrupt(int,int) IndexOutOfBoundsException IllegalArgumentException",
        "int unpack(int) IndexOutOfBoundsException IllegalArgumentException",
        "int depth(int) IndexOutOfBoundsException IllegalArgumentException",
    };

    public static void main(String[] args) {
        Class<?> face = SlicedReads.class;
        due.equal("the class is public and final", face.getModifiers(), Modifier.PUBLIC | Modifier.FINAL);
        methods(face);
        for (Field field : face.getDeclaredFields()) {
            boolean hidden = Modifier.isPrivate(field.getModifiers());
            due.equal("field " + field.getName() + " is private", hidden ? 1 : 0, field.getName().equals("NONE") ? 0 : 1);
        }
        Constructor<?>[] made = face.getDeclaredConstructors();
        due.equal("constructors", made.length, 1);
        due.equal("the constructor is public", made[0].getModifiers(), Modifier.PUBLIC);
        due.equal("the constructor's parameters", made[0].getParameterCount(), 0);
        due.end("FaceTest");
    }

    private static void methods(Class<?> face) {
        TreeSet<String> seen = new TreeSet<>();
        TreeSet<String> names = new TreeSet<>();
        TreeSet<String> hidden = new TreeSet<>();
        for (Method method : face.getDeclaredMethods()) {
            if (Modifier.isPrivate(method.getModifiers())) {
                hidden.add(method.getName());
            } else {
                seen.add(signature(method));
                names.add(method.getName());
            }
        }
        TreeSet<String> want = new TreeSet<>(Arrays.asList(FACE));
        due.equal("methods " + seen + " are " + want, seen.equals(want) ? 1 : 0, 1);
        hidden.retainAll(names);
        due.equal("private methods with a public one's name " + hidden, hidden.size(), 0);
    }

    private static String signature(Method method) {
        StringBuilder text = new StringBuilder();
        text.append(method.getReturnType().getName()).append(' ').append(method.getName()).append('(');
        String mark = "";
        for (Class<?> each : method.getParameterTypes()) {
            text.append(mark).append(each.getName());
            mark = ",";
        }
        text.append(')');
        for (Class<?> each : method.getExceptionTypes()) {
            text.append(' ').append(each.getSimpleName());
        }
        return text.toString();
    }
}
