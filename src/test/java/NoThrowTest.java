import java.lang.reflect.InvocationTargetException;
import java.lang.reflect.Method;
import java.lang.reflect.Modifier;
import java.util.Arrays;
import java.util.Comparator;
import java.util.Random;

/** No call throws, whatever its arguments and however many came before it. */
public final class NoThrowTest {
    private static final Due DUE = new Due("NoThrowTest");
    private static final int[] EDGES = {Integer.MIN_VALUE, Integer.MIN_VALUE + 1, -1000, -9, -1, 0, 1, 2, 3, 4,
        5, 6, 7, 8, 9, 10, 12, 16, 17, 29, 30, 31, 39, 40, 41, 96, 99, 100, 255, 256, Integer.MAX_VALUE};
    private static final String TEXT_LETTERS = "pwrna;;;0123459wlfsbc";

    public static void main(String[] args) throws IllegalAccessException {
        Method[] calls = SmellHowLong.class.getDeclaredMethods();
        calls = Arrays.stream(calls).filter(m -> Modifier.isPublic(m.getModifiers())).toArray(Method[]::new);
        Arrays.sort(calls, Comparator.comparing(Method::getName));
        DUE.is("methods", calls.length, 28);
        for (int run = 0; run < 300; run++) {
            Random random = new Random(run);
            SmellHowLong x = run % 3 == 0 ? new SmellHowLong()
                    : Due.town("p01;p12;p23;p34;p45;p50;p03;w13;w42;r0;n3;aw012345;al5432;af3;ab1;");
            for (int i = 0; i < 2000; i++) {
                ask(x, calls[random.nextInt(calls.length)], random, run);
            }
        }
        DUE.end();
    }

    private static void ask(SmellHowLong x, Method call, Random random, int run) throws IllegalAccessException {
        Object[] arguments = new Object[call.getParameterCount()];
        for (int i = 0; i < arguments.length; i++) {
            arguments[i] = random.nextInt(3) == 0 ? EDGES[random.nextInt(EDGES.length)] : random.nextInt(7);
        }
        if (call.getName().equals("letter") && random.nextInt(4) != 0) {
            arguments[0] = (int) TEXT_LETTERS.charAt(random.nextInt(TEXT_LETTERS.length()));
        }
        String told = "run " + run + ": " + call.getName() + Arrays.toString(arguments);
        try {
            int answer = (Integer) call.invoke(x, arguments);
            DUE.is(told + " least", Math.min(answer, -2096), -2096);
            // The most are ways walked: 6 rooms in 9 moments.
            DUE.is(told + " most", Math.max(answer, 10077696), 10077696);
        } catch (InvocationTargetException e) {
            DUE.is(told + " threw " + e.getCause(), 1, 0);
        }
    }
}
