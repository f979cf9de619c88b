import java.lang.reflect.Constructor;
import java.lang.reflect.Field;
import java.lang.reflect.Method;
import java.lang.reflect.Modifier;
import java.util.Arrays;
import java.util.HashSet;
import java.util.List;
import java.util.Set;
import java.util.TreeSet;
import java.util.stream.Collectors;

/** The public face: just what the document has, with what each method throws. */
public final class FaceTest {
    private static final String I = " IllegalArgumentException";
    private static final String N = " NoSuchElementException";
    private static final List<String> FACE = List.of("int feed/5", "int port/1" + I, "int law/1" + I,
            "int work/1" + I, "int deeds/1" + I, "int fault/0", "int undo/0", "int told/1" + I,
            "int row/2" + N + I, "int bid/2" + N + I, "int writer/2" + N + I, "int line/2" + N + I,
            "int kin/1" + I, "int would/8" + I, "int force/2" + I, "int torn/0", "boolean can/3" + N,
            "int send/1" + I, "int lost/1" + I, "int path/2" + I, "int comes/1" + I, "int fits/1" + I,
            "int fitted/2" + N + I, "int stood/1" + I, "int ask/1" + I, "long still/5" + N + I,
            "int crews/3" + I, "int share/3" + N + I, "int above/1" + I, "int mightiest/1" + I,
            "int missing/0", "int idle/0", "int ends/2" + N + I, "int loud/1" + N, "int years/5" + I,
            "int span/7" + I, "int image/0", "int restore/0", "int status/1", "int count/1");

    private static final Check check = new Check();

    public static void main(String[] args) {
        methods();
        fields();
        constructors();
        classesInside();
        check.end("FaceTest");
    }

    private static void methods() {
        Set<String> found = new TreeSet<>();
        Set<String> publicNames = new HashSet<>();
        for (Method method : ChalkWall.class.getDeclaredMethods()) {
            if (Modifier.isPublic(method.getModifiers())) {
                found.add(told(method));
                publicNames.add(method.getName());
            }
        }
        check.same("the public methods", new TreeSet<>(FACE).toString(), found.toString());
        for (Method method : ChalkWall.class.getDeclaredMethods()) {
            boolean isPublic = Modifier.isPublic(method.getModifiers());
            check.due(method + " is public or private", true, isPublic || Modifier.isPrivate(method.getModifiers()));
            check.due(method + " has a name of its own", true, isPublic || !publicNames.contains(method.getName()));
        }
    }

    private static String told(Method method) {
        String thrown = Arrays.stream(method.getExceptionTypes()).map(c -> " " + c.getSimpleName())
                .collect(Collectors.joining());
        for (Class<?> type : method.getParameterTypes()) {
            check.due(method + " takes whole numbers", true, type == int.class);
        }
        return method.getReturnType() + " " + method.getName() + "/" + method.getParameterCount() + thrown;
    }

    private static void fields() {
        for (Field field : ChalkWall.class.getDeclaredFields()) {
            boolean none = field.getName().equals("NONE");
            check.due(field + " is private, but for NONE", none, !Modifier.isPrivate(field.getModifiers()));
            check.due(field + " is final, if it is static", true,
                    !Modifier.isStatic(field.getModifiers()) || Modifier.isFinal(field.getModifiers()));
        }
        check.due("NONE", -1, ChalkWall.NONE);
    }

    private static void constructors() {
        Constructor<?>[] all = ChalkWall.class.getDeclaredConstructors();
        check.due("constructors", 1, all.length);
        check.due("its numbers", 0, all[0].getParameterCount());
        check.due("it is public", true, Modifier.isPublic(all[0].getModifiers()));
        check.due("the class is final", true, Modifier.isFinal(ChalkWall.class.getModifiers()));
    }

    private static void classesInside() {
        for (Class<?> inside : ChalkWall.class.getDeclaredClasses()) {
            check.due(inside + " is static", true, Modifier.isStatic(inside.getModifiers()));
            check.due(inside + " is private", true, Modifier.isPrivate(inside.getModifiers()));
        }
    }
}
