import java.lang.reflect.InvocationTargetException;
import java.lang.reflect.Method;
import java.lang.reflect.Modifier;
import java.util.ArrayList;
import java.util.Comparator;
import java.util.List;
import java.util.Random;

/** Rule 7: no call throws, whatever its arguments, in whatever state; and the same calls answer the same again. */
public final class AnyCallTest {
    private static final int RUNS = 2000;
    private static final int[] EDGES = {Integer.MIN_VALUE, Integer.MIN_VALUE + 1, -1000, -10, -2, -1, 0, 1, 2, 5, 6, 7, 8, 9,
        10, 11, 15, 16, 17, 19, 20, 30, 31, 40, 41, 60, 61, 77, 90, 97, 99, 100, 270, 399, 400, 401, 999, 1000, 1023, 1024,
        9999, 10000, Integer.MAX_VALUE - 10, Integer.MAX_VALUE - 1, Integer.MAX_VALUE};

    public static void main(String[] args) throws Exception {
        List<Method> calls = new ArrayList<>();
        for (Method m : SwallowsAir.class.getDeclaredMethods()) {
            if (Modifier.isPublic(m.getModifiers())) {
                calls.add(m);
            }
        }
        calls.sort(Comparator.comparing(Method::getName));
        Due.due("calls of the face", calls.size(), 40);
        for (int seed = 0; seed < RUNS; seed++) {
            long once = run(calls, seed);
            Due.due("run " + seed + " again", run(calls, seed), once);
        }
        Due.close("AnyCallTest");
    }

    /** A number that all answers of the run go into. */
    private static long run(List<Method> calls, int seed) throws Exception {
        Random random = new Random(seed);
        Texts texts = new Texts(random);
        SwallowsAir x = new SwallowsAir();
        for (int i = 0; i < seed % 11; i++) {
            x.person(i % 8, i % 10, 1000 * i % 10000);
            x.swallow(i % 10, 1 + i % 9);
        }
        long all = 17;
        int made = 20;
        while (made < 480) {
            made++;
            if (random.nextInt(40) == 0) {
                made += 25;
                Due.feed(x, texts.some(random.nextInt(4), x.look(0), x.look(1), x.look(6)));
            }
            Method call = calls.get(random.nextInt(calls.size()));
            all = 31 * all + answer(x, call, random);
        }
        return all;
    }

    private static int answer(SwallowsAir x, Method call, Random random) throws Exception {
        Object[] arguments = new Object[call.getParameterCount()];
        for (int i = 0; i < arguments.length; i++) {
            boolean flag = call.getParameterTypes()[i] == boolean.class;
            arguments[i] = flag ? (Object) random.nextBoolean() : (Object) argument(random);
        }
        try {
            return call.invoke(x, arguments).hashCode();
        } catch (InvocationTargetException e) {
            String told = call.getName() + java.util.Arrays.toString(arguments);
            Due.due(told + " threw " + e.getCause(), 1, 0);
            return 0;
        }
    }

    private static int argument(Random random) {
        int kind = random.nextInt(8);
        return kind == 0 ? EDGES[random.nextInt(EDGES.length)] : kind == 1 ? random.nextInt() : random.nextInt(kind < 5 ? 4 : 12);
    }
}
