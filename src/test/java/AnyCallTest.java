import java.lang.reflect.Method;
import java.lang.reflect.Modifier;
import java.util.Arrays;
import java.util.Random;

/**
 * No call throws or fails to end, whatever it is given and however often an object is called: far more than the 512
 * calls that are promised. What is answered is not looked at here.
 */
public final class AnyCallTest {
    private static final int OBJECTS = 60;
    private static final int CALLS = 20000;
    private static final long[] EDGES = {Long.MIN_VALUE, Long.MAX_VALUE, Integer.MIN_VALUE, Integer.MAX_VALUE, 1L << 32, 0xFFFFFFFFL,
        -1, -2, 8, 9, 10, 11, 20, 21, 31, 32, 33, 39, 40, 41, 59, 60, 61, 63, 64, 98, 99, 100, 250, 251, 255, 256, 800, 999, 1000, 1001};

    private static long someNumber(Random random) {
        switch (random.nextInt(8)) {
            case 0: return EDGES[random.nextInt(EDGES.length)];
            case 1: return random.nextLong();
            case 2: return random.nextInt(100);
            default: return random.nextInt(8);
        }
    }

    private static Object[] someArguments(Method call, Random random) {
        return Arrays.stream(call.getParameterTypes()).map(type -> {
            long v = someNumber(random);
            return type == boolean.class ? (Object) (v % 2 == 0) : type == long.class ? (Object) v : (Object) (int) v;
        }).toArray();
    }

    private static void useLong(Method[] face, long seed) throws ReflectiveOperationException {
        Random random = new Random(seed);
        EachBookOnce x = new EachBookOnce();
        for (int i = 0; i < CALLS; i++) {
            Method call = face[random.nextInt(face.length)];
            Object[] arguments = someArguments(call, random);
            try {
                call.invoke(x, arguments);
            } catch (java.lang.reflect.InvocationTargetException e) {
                System.out.println("seed " + seed + " call " + i + ": " + call.getName() + Arrays.toString(arguments) + " threw " + e.getCause());
                System.exit(1);
            }
        }
    }

    private AnyCallTest() {
    }

    public static void main(String[] args) throws ReflectiveOperationException {
        Method[] face = Arrays.stream(EachBookOnce.class.getDeclaredMethods()).filter(m -> Modifier.isPublic(m.getModifiers()))
                .sorted((a, b) -> a.getName().compareTo(b.getName())).toArray(Method[]::new);
        for (long seed = 1; seed <= OBJECTS; seed++) {
            useLong(face, seed);
        }
        System.out.println(OBJECTS + " times " + CALLS + " calls threw nothing");
    }
}
