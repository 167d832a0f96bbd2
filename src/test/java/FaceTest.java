import java.lang.reflect.Constructor;
import java.lang.reflect.Executable;
import java.lang.reflect.Field;
import java.lang.reflect.Method;
import java.lang.reflect.Modifier;
import java.util.Arrays;
import java.util.Set;
import java.util.TreeSet;

/** The public face: what stands in the document, and nothing more. */
public final class FaceTest {
    private static final String[] FACE = {
        "come() int IllegalStateException",
        "setKind(int,int) int IndexOutOfBoundsException",
        "setRounds(int) int IllegalArgumentException",
        "hold(int,int) int IllegalArgumentException,IndexOutOfBoundsException",
        "does(int) int IllegalStateException,IndexOutOfBoundsException",
        "took(int,int) int IllegalStateException,IndexOutOfBoundsException",
        "count(int) int IndexOutOfBoundsException",
        "told(int,int) int IndexOutOfBoundsException",
        "hears(int,int,int) int IllegalArgumentException,IndexOutOfBoundsException",
        "would(int,int,int) int IllegalArgumentException,IndexOutOfBoundsException",
        "agrees(int,int) boolean IllegalArgumentException,IndexOutOfBoundsException",
        "messengers(int) int IllegalArgumentException",
        "needs() int ",
        "found(int) int IndexOutOfBoundsException",
        "mean() double ",
        "digest() long "
    };

    public static void main(String[] args) {
        Check.same("public and final", LiarTents.class.getModifiers(), Modifier.PUBLIC | Modifier.FINAL);
        Set<String> open = new TreeSet<>();
        Set<String> openNames = new TreeSet<>();
        Set<String> closedNames = new TreeSet<>();
        for (Method method : LiarTents.class.getDeclaredMethods()) {
            if (Modifier.isPrivate(method.getModifiers())) {
                closedNames.add(method.getName());
            } else {
                open.add(signature(method) + " " + method.getReturnType() + " " + exceptions(method));
                openNames.add(method.getName());
            }
        }
        Check.same("methods", open, new TreeSet<>(Arrays.asList(FACE)));
        closedNames.retainAll(openNames);
        Check.same("private methods with a public one's name", closedNames, Set.of());
        for (Field field : LiarTents.class.getDeclaredFields()) {
            Check.same(field.getName() + " is private", Modifier.isPrivate(field.getModifiers()), true);
        }
        Constructor<?>[] constructors = LiarTents.class.getDeclaredConstructors();
        Check.same("constructors", constructors.length, 1);
        Check.same("the constructor takes nothing", constructors[0].getParameterCount(), 0);
        Check.same("the constructor is public", constructors[0].getModifiers(), Modifier.PUBLIC);
        Check.end("FaceTest");
    }

    private static String signature(Executable method) {
        StringBuilder text = new StringBuilder(method.getName()).append('(');
        String comma = "";
        for (Class<?> type : method.getParameterTypes()) {
            text.append(comma).append(type);
            comma = ",";
        }
        return text.append(')').toString();
    }

    private static String exceptions(Executable method) {
        Set<String> names = new TreeSet<>();
        for (Class<?> type : method.getExceptionTypes()) {
            names.add(type.getSimpleName());
        }
        return String.join(",", names);
    }
}
