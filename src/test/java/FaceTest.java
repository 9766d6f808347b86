import java.lang.reflect.Constructor;
import java.lang.reflect.Field;
import java.lang.reflect.Method;
import java.lang.reflect.Modifier;
import java.util.Arrays;
import java.util.Set;
import java.util.TreeSet;

/** The class has the face of the document, and no other member that is not private. */
public final class FaceTest {
    private static final String[] FACE = {
        "int coefficient(int,int,int) IndexOutOfBoundsException IllegalArgumentException",
        "int value(int,int) IndexOutOfBoundsException IllegalArgumentException",
        "int roots(int) IndexOutOfBoundsException",
        "int root(int,int,int) IndexOutOfBoundsException IllegalArgumentException",
        "boolean isSpare(int,int) IndexOutOfBoundsException",
        "boolean areSame(int,int) IndexOutOfBoundsException",
        "int sum(int,int,int) IndexOutOfBoundsException",
        "int product(int,int,int) IndexOutOfBoundsException IllegalStateException",
        "int matrix(int,int) IndexOutOfBoundsException IllegalArgumentException",
        "int entry(int,int,int,int) IndexOutOfBoundsException IllegalArgumentException",
        "int at(int,int,int) IndexOutOfBoundsException",
        "int part(int,int,int) IndexOutOfBoundsException IllegalArgumentException",
        "int partAt(int,int) IndexOutOfBoundsException",
        "int multiply(int,int,int) IndexOutOfBoundsException IllegalStateException",
        "int star(int,int) IndexOutOfBoundsException IllegalStateException",
        "int mean(int,int) IndexOutOfBoundsException IllegalArgumentException",
        "int determinant(int) IndexOutOfBoundsException",
        "int ways(int) IndexOutOfBoundsException",
        "boolean solve(int,int,int) IndexOutOfBoundsException IllegalStateException",
        "boolean project(int,int,int) IndexOutOfBoundsException IllegalStateException",
        "int tree(int) IndexOutOfBoundsException",
        "int edges(int,int,int) IndexOutOfBoundsException IllegalArgumentException",
        "int chips(int,int) IndexOutOfBoundsException IllegalArgumentException",
        "int chipsAt(int) IndexOutOfBoundsException",
        "int fire(int) IndexOutOfBoundsException IllegalStateException",
        "int reduced(int,int) IndexOutOfBoundsException IllegalStateException",
        "int rank() IllegalStateException",
        "int restRank() IllegalStateException",
        "int graph(int) IllegalArgumentException",
    };

    public static void main(String[] args) {
        Class<?> face = Amoebary.class;
        int modifiers = face.getModifiers();
        Check.due("public final", Modifier.isPublic(modifiers) && Modifier.isFinal(modifiers), true);
        Set<String> want = new TreeSet<>(Arrays.asList(FACE));
        Set<String> got = new TreeSet<>();
        Set<String> publicNames = new TreeSet<>();
        for (Method method : face.getDeclaredMethods()) {
            if (!Modifier.isPrivate(method.getModifiers())) {
                got.add(told(method));
                publicNames.add(method.getName());
            }
        }
        if (!got.equals(want)) {
            Check.note("the methods are " + got + ", due are " + want);
        }
        for (Method method : face.getDeclaredMethods()) {
            if (Modifier.isPrivate(method.getModifiers()) && publicNames.contains(method.getName())) {
                Check.note("a private method bears a public name: " + method.getName());
            }
        }
        Set<String> fields = new TreeSet<>();
        for (Field field : face.getDeclaredFields()) {
            if (!Modifier.isPrivate(field.getModifiers())) {
                fields.add(Modifier.toString(field.getModifiers()) + " " + field.getName());
            }
        }
        if (!fields.equals(new TreeSet<>(Arrays.asList(
                "public static final INFINITE", "public static final NONE")))) {
            Check.note("the constants are " + fields);
        }
        Constructor<?>[] constructors = face.getDeclaredConstructors();
        Check.due("constructors", constructors.length, 1);
        Check.due("its parameters", constructors[0].getParameterCount(), 0);
        Check.due("it is public", Modifier.isPublic(constructors[0].getModifiers()), true);
        Check.due("INFINITE", Amoebary.INFINITE, 1000000);
        Check.due("NONE", Amoebary.NONE, -1);
        Check.end("FaceTest");
    }

    private static String told(Method method) {
        StringBuilder text = new StringBuilder();
        text.append(method.getReturnType().getSimpleName()).append(' ').append(method.getName());
        text.append('(');
        for (Class<?> type : method.getParameterTypes()) {
            text.append(text.charAt(text.length() - 1) == '(' ? "" : ",").append(type.getSimpleName());
        }
        text.append(')');
        for (Class<?> type : method.getExceptionTypes()) {
            text.append(' ').append(type.getSimpleName());
        }
        return text.toString();
    }
}
