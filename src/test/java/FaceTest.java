import java.lang.reflect.Constructor;
import java.lang.reflect.Field;
import java.lang.reflect.Method;
import java.lang.reflect.Modifier;
import java.util.Arrays;
import java.util.TreeSet;

/** The public face is the document's, with nothing beside it. */
public final class FaceTest {
    private static final String[] FACE = {
        "int row(int, int, int, int, int, int) IllegalArgumentException IndexOutOfBoundsException UnsupportedOperationException",
        "void values(int, int, int) IllegalArgumentException IndexOutOfBoundsException",
        "int define(int, int) IndexOutOfBoundsException UnsupportedOperationException",
        "void ask(int, int, int, int) IllegalArgumentException IndexOutOfBoundsException",
        "int count(int) IllegalArgumentException",
        "int hour(int) IndexOutOfBoundsException",
        "int share(int) IllegalArgumentException ArithmeticException",
        "int placed(int) IndexOutOfBoundsException",
        "int splits()",
        "int compare(int, int) IndexOutOfBoundsException ArithmeticException",
        "int trend(int, int, int, int) IllegalArgumentException IndexOutOfBoundsException",
        "void people(int, int) IllegalArgumentException IndexOutOfBoundsException",
        "int perThousand(int) IllegalArgumentException ArithmeticException",
        "int rank(int) IllegalArgumentException",
        "void least(int) IndexOutOfBoundsException",
        "int shown(int) IllegalArgumentException",
        "int joined()",
        "int work(int, int) IllegalArgumentException",
    };

    public static void main(String[] args) {
        Check check = new Check();
        TreeSet<String> want = new TreeSet<>(Arrays.asList(FACE));
        TreeSet<String> got = new TreeSet<>();
        TreeSet<String> publicNames = new TreeSet<>();
        for (Method method : ShareStatistics.class.getDeclaredMethods()) {
            if (!Modifier.isPrivate(method.getModifiers())) {
                got.add(faceOf(method));
                publicNames.add(method.getName());
            }
        }
        check.equal("the methods of the face", got.toString(), want.toString());
        for (Method method : ShareStatistics.class.getDeclaredMethods()) {
            boolean clash = Modifier.isPrivate(method.getModifiers()) && publicNames.contains(method.getName());
            check.equal("a private method named " + method.getName(), clash ? 1 : 0, 0);
        }
        for (Field field : ShareStatistics.class.getDeclaredFields()) {
            check.equal("private " + field.getName(), Modifier.isPrivate(field.getModifiers()) ? 1 : 0, 1);
        }
        Constructor<?>[] constructors = ShareStatistics.class.getDeclaredConstructors();
        check.equal("constructors", constructors.length, 1);
        check.equal("the constructor is public", constructors[0].getModifiers(), Modifier.PUBLIC);
        check.equal("its parameters", constructors[0].getParameterCount(), 0);
        check.equal("the class", ShareStatistics.class.getModifiers(), Modifier.PUBLIC | Modifier.FINAL);
        check.end("FaceTest");
    }

    private static String faceOf(Method method) {
        StringBuilder text = new StringBuilder(method.getReturnType().getName());
        text.append(' ').append(method.getName()).append('(');
        for (int i = 0; i < method.getParameterCount(); i++) {
            text.append(i == 0 ? "" : ", ").append(method.getParameterTypes()[i].getName());
        }
        text.append(')');
        for (Class<?> thrown : method.getExceptionTypes()) {
            text.append(' ').append(thrown.getSimpleName());
        }
        return Modifier.isPublic(method.getModifiers()) ? text.toString() : "not public: " + text;
    }
}
