import java.lang.reflect.InvocationTargetException;
import java.lang.reflect.Method;
import java.lang.reflect.Modifier;
import java.util.Arrays;
import java.util.Comparator;
import java.util.NoSuchElementException;
import java.util.Random;

/** Any call with any arguments in any state: nothing is thrown but by pond, and what it throws is what is told. */
public final class AnyCallTest {
    private static final int[] EDGES = {Integer.MIN_VALUE, -1000001, -1000000, -61, -10, -2, -1, 0, 1, 2, 3, 6, 7, 8, 9, 10,
        18, 19, 31, 32, 33, 59, 60, 61, 99, 100, 240, 241, 9999, Integer.MAX_VALUE - 1, Integer.MAX_VALUE};
    private static final String[] TOWNS = {"", "p", "pw0;pw0;io1", "sr9d0;pw99c99f99g9;pw99c99f99g9;io1m9",
        "sd0r1;p;p;p;p;p;p;p;im9o1;ia1b2m9;ia2b3m9;ia3b4m9;ia4b5m9;ia5b6m9;ia6b0m9;ia0b2m9;ia1b6m9"};
    private static final Random RANDOM = new Random(7);
    private static int wrong = 0;

    public static void main(String[] args) throws IllegalAccessException {
        Method[] face = Arrays.stream(PondRoofs.class.getDeclaredMethods())
            .filter(m -> Modifier.isPublic(m.getModifiers())).sorted(Comparator.comparing(Method::getName)).toArray(Method[]::new);
        for (int run = 0; run < 2000 && wrong < 20; run++) {
            PondRoofs x = new PondRoofs();
            Checks.text(x, 1, "y:d/m>0?t*t*t/[l-l]+w;y:!h=0?0-9999*9999;y:m");
            Checks.text(x, 2, "o0;o9;d9;w99;c0");
            Checks.text(x, 2, "d9;d9;d9;o1;d9;w01");
            Checks.text(x, 0, TOWNS[run % TOWNS.length]);
            for (int i = 0; i < 256; i++) {
                call(x, face[RANDOM.nextInt(face.length)]);
            }
        }
        System.out.println(wrong == 0 ? "nothing is thrown that is not told" : wrong + " calls threw");
        if (wrong != 0) {
            System.exit(1);
        }
    }

    private static Object argument(Class<?> sort) {
        if (sort == boolean.class) {
            return RANDOM.nextBoolean();
        }
        int edge = RANDOM.nextBoolean() ? RANDOM.nextInt(4) : EDGES[RANDOM.nextInt(EDGES.length)];
        if (sort == long.class) {
            return RANDOM.nextBoolean() ? (long) edge : RANDOM.nextLong();
        }
        return edge;
    }

    private static void call(PondRoofs x, Method method) throws IllegalAccessException {
        Object[] arguments = Arrays.stream(method.getParameterTypes()).map(AnyCallTest::argument).toArray();
        try {
            method.invoke(x, arguments);
        } catch (InvocationTargetException e) {
            boolean told = method.getName().equals("pond") && e.getCause().getClass() == NoSuchElementException.class;
            if (!told && wrong++ < 20) {
                System.out.println(method.getName() + Arrays.toString(arguments) + " threw " + e.getCause());
            }
        }
    }
}
