import java.lang.reflect.InvocationTargetException;
import java.lang.reflect.Method;
import java.lang.reflect.Modifier;
import java.util.Arrays;
import java.util.Comparator;

/** Runs of calls, each on a new object and on a NioShelf at once: all promises, in states that no one thought of. */
public final class ModelTest {
    private static final int RUNS = 2000;
    private static final int CALLS = 350;
    /** With digest() and isSound() each time, a run stays within the 512 calls of the document. */
    private static final int LOOK_EVERY = 5;
    private static final int[] EXTREMES = {Integer.MIN_VALUE, Integer.MAX_VALUE, -32769, -32768, 32767, 32768, -70001,
        65536, 100, -2};

    private static long seed = 77;

    /** The same numbers at every run of the test. */
    private static int below(int bound) {
        seed = seed * 6364136223846793005L + 1442695040888963407L;
        return (int) ((seed >>> 33) % bound);
    }

    public static void main(String[] args) throws Exception {
        Method[] ours = Sluiceshelf.class.getDeclaredMethods();
        ours = Arrays.stream(ours).filter(m -> Modifier.isPublic(m.getModifiers())).toArray(Method[]::new);
        Arrays.sort(ours, Comparator.comparing(Method::getName));
        Method[] theirs = new Method[ours.length];
        for (int i = 0; i < ours.length; i++) {
            theirs[i] = NioShelf.class.getDeclaredMethod(ours[i].getName(), ours[i].getParameterTypes());
        }
        for (int run = 0; run < RUNS; run++) {
            oneRun(run, ours, theirs);
        }
        Probe.end();
    }

    private static void oneRun(int run, Method[] ours, Method[] theirs) throws Exception {
        Sluiceshelf x = new Sluiceshelf();
        NioShelf model = new NioShelf();
        int[] weights = weights(ours.length);
        int sum = Arrays.stream(weights).sum();
        int wildness = run % 4 == 0 ? 5 : 60;
        for (int call = 0; call < CALLS; call++) {
            int method = chosen(weights, below(sum));
            Object[] args = arguments(ours[method], wildness);
            String told = ours[method].getName() + Arrays.toString(args);
            Object got = answer(ours[method], x, args);
            Object want = answer(theirs[method], model, args);
            if (!got.equals(want)) {
                Probe.due("run " + run + ", call " + call + ", " + told, got, want);
                return;
            }
            if (call % LOOK_EVERY == 0 && (x.digest() != model.digest() || !x.isSound())) {
                Probe.due("run " + run + ", call " + call + ", the state after " + told, "another", "that of the model");
                return;
            }
        }
    }

    /** Some methods come often in one run and never in another, so that queues and pipe get full, and empty again. */
    private static int[] weights(int many) {
        int[] weights = new int[many];
        for (int i = 0; i < many; i++) {
            weights[i] = below(3) == 0 ? 0 : 1 + below(10) * below(5);
        }
        weights[below(many)] += 60;
        weights[below(many)] += 60;
        return weights;
    }

    private static int chosen(int[] weights, int at) {
        int left = at;
        for (int i = 0; i < weights.length; i++) {
            left -= weights[i];
            if (left < 0) {
                return i;
            }
        }
        return weights.length - 1;
    }

    private static Object[] arguments(Method method, int wildness) {
        Object[] args = new Object[method.getParameterCount()];
        for (int i = 0; i < args.length; i++) {
            args[i] = below(wildness) == 0 ? EXTREMES[below(EXTREMES.length)] : argument(method.getName(), i);
        }
        return args;
    }

    private static int argument(String name, int at) {
        boolean isValue = name.equals("lay") && at > 0 || name.equals("layFourth") && at == 2
                || name.equals("putNext") || name.equals("putAt") && at == 1;
        if (isValue) {
            return name.equals("lay") ? below(3) * 65536 * (below(9) - 4) + below(65536) : below(7) * below(4000) - 8000;
        }
        switch (name) {
            case "lensPlace", "lensLimit", "lensCut", "longAt", "shortAt", "putAt":
                return at == 0 && name.startsWith("lens") ? below(2) : below(26) - 1;
            case "lens":
                return at == 0 ? below(2) : below(10) - 1;
            case "house", "pipe", "place":
                return below(9) - 1;
            case "cellText":
                return below(18) - 1;
            default:
                return below(8) == 0 ? below(12) - 1 : below(4);
        }
    }

    private static Object answer(Method method, Object on, Object[] args) throws IllegalAccessException {
        try {
            return method.invoke(on, args);
        } catch (InvocationTargetException e) {
            return "throws " + e.getCause().getClass().getName();
        }
    }
}
