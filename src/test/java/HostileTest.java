import java.lang.reflect.InvocationTargetException;
import java.lang.reflect.Method;
import java.lang.reflect.Modifier;
import java.util.ArrayList;
import java.util.Comparator;
import java.util.List;
import java.util.NoSuchElementException;
import java.util.Random;

/** Whatever numbers and bytes come: a call throws what the document names and counts it, or answers. */
public final class HostileTest {
    private static final int RUNS = 150;
    private static final int CALLS = 480;
    private static final int[] NUMBERS = {Integer.MIN_VALUE, Integer.MIN_VALUE + 1, -65536, -2, -1, 0, 1, 2, 3, 4, 5,
        6, 7, 8, 9, 10, 12, 15, 16, 19, 20, 31, 32, 63, 64, 96, 150, 151, 255, 256, 400, 500, 501, 600, 601, 65536,
        Integer.MAX_VALUE - 1, Integer.MAX_VALUE};
    private static final String FULL = "row 30;row 1;row 15;row 30;" + Check.times("bid 0 1;", 7) + "bid 9 15;"
            + "kin 0 9;kin 9 1;kin 1 0;" + Check.times("writer 3 60;", 5) + "writer 0 1;"
            + "knows 0 0;knows 1 1;knows 2 2;knows 3 7;knows 5 0;";

    private static final Check check = new Check();

    private final Random random;
    private final ChalkWall wall = new ChalkWall();
    private int noSuch;
    private int illegal;

    private HostileTest(int seed) {
        random = new Random(seed);
    }

    public static void main(String[] args) throws IllegalAccessException {
        List<Method> methods = new ArrayList<>();
        for (Method method : ChalkWall.class.getDeclaredMethods()) {
            if (Modifier.isPublic(method.getModifiers())) {
                methods.add(method);
            }
        }
        methods.sort(Comparator.comparing(Method::getName));
        for (int seed = 1; seed <= RUNS; seed++) {
            new HostileTest(seed).run(methods);
        }
        check.end("HostileTest");
    }

    private void run(List<Method> methods) throws IllegalAccessException {
        if (random.nextInt(4) != 0) {
            Check.port(wall, FULL);
            Check.work(wall, "again 30[write 0 0 0;write 1 1 1;write 2 2 2;write 3 7 3;];");
        }
        for (int i = 0; i < CALLS; i++) {
            if (random.nextInt(5) == 0) {
                wall.feed(some(), some(), some(), some(), some());
            } else {
                call(methods.get(random.nextInt(methods.size())));
            }
        }
        check.due("40: calls refused as no such", noSuch, wall.status(0));
        check.due("40: calls refused as wrong", illegal, wall.status(1));
    }

    private int some() {
        return random.nextInt(3) == 0 ? random.nextInt() : NUMBERS[random.nextInt(NUMBERS.length)];
    }

    private void call(Method method) throws IllegalAccessException {
        Object[] numbers = new Object[method.getParameterCount()];
        boolean small = random.nextInt(2) == 0;
        for (int i = 0; i < numbers.length; i++) {
            numbers[i] = small ? random.nextInt(4) : some();
        }
        boolean text = List.of("port", "law", "work", "deeds").contains(method.getName());
        if (text && random.nextInt(3) == 0) {
            return;
        }
        try {
            method.invoke(wall, numbers);
        } catch (InvocationTargetException e) {
            Class<?> thrown = e.getCause().getClass();
            boolean named = List.of(method.getExceptionTypes()).contains(thrown);
            check.due(method.getName() + List.of(numbers) + " may throw " + e.getCause(), true, named);
            noSuch += thrown == NoSuchElementException.class ? 1 : 0;
            illegal += thrown == IllegalArgumentException.class ? 1 : 0;
        }
    }
}
