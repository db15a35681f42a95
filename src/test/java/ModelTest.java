import java.lang.reflect.Method;
import java.util.Arrays;

/** Runs of calls, each on a new object and on a NioShelf at once: all promises, in states that no one thought of. */
public final class ModelTest {
    private static final int RUNS = 2000;
    private static final int CALLS = 350;
    /** With digest() and isSound() each time, a run stays within the 512 calls of the document. */
    private static final int LOOK_EVERY = 5;
    private static final int[] EXTREMES = {Integer.MIN_VALUE, Integer.MAX_VALUE, -32769, -32768, 32767, 32768, -70001,
        65536, 100, -2};

    private static long seed = 77;

    /** The same numbers at every run of the test. */
    private static int below(int bound) {
        seed = seed * 6364136223846793005L + 1442695040888963407L;
        return (int) ((seed >>> 33) % bound);
    }

    public static void main(String[] args) {
        for (int run = 0; run < RUNS; run++) {
            oneRun(run);
        }
        Probe.end();
    }

    private static void oneRun(int run) {
        Pair pair = new Pair();
        int[] weights = weights(Pair.FACE.size());
        int sum = Arrays.stream(weights).sum();
        int wildness = run % 4 == 0 ? 5 : 60;
        for (int k = 0; k < CALLS; k++) {
            Method method = Pair.FACE.get(chosen(weights, below(sum)));
            Pair.Call call = new Pair.Call(method.getName(), arguments(method, wildness));
            String about = "run " + run + ", call " + k;
            boolean alike = pair.answersAlike(about, call);
            if (!alike || k % LOOK_EVERY == 0 && !pair.standsAlike(about + ", after " + call)) {
                return;
            }
        }
    }

    /** Some methods come often in one run and never in another, so that queues and pipe get full, and empty again. */
    private static int[] weights(int many) {
        int[] weights = new int[many];
        for (int i = 0; i < many; i++) {
            weights[i] = below(3) == 0 ? 0 : 1 + below(10) * below(5);
        }
        weights[below(many)] += 60;
        weights[below(many)] += 60;
        return weights;
    }

    private static int chosen(int[] weights, int at) {
        int left = at;
        for (int i = 0; i < weights.length; i++) {
            left -= weights[i];
            if (left < 0) {
                return i;
            }
        }
        return weights.length - 1;
    }

    private static Object[] arguments(Method method, int wildness) {
        Object[] args = new Object[method.getParameterCount()];
        for (int i = 0; i < args.length; i++) {
            args[i] = below(wildness) == 0 ? EXTREMES[below(EXTREMES.length)] : argument(method.getName(), i);
        }
        return args;
    }

    private static int argument(String name, int at) {
        boolean isValue = name.equals("lay") && at > 0 || name.equals("layFourth") && at == 2
                || name.equals("putNext") || name.equals("putAt") && at == 1;
        if (isValue) {
            return name.equals("lay") ? below(3) * 65536 * (below(9) - 4) + below(65536)
                    : below(7) * below(4000) - 8000;
        }
        switch (name) {
            case "lensPlace", "lensLimit", "lensCut", "longAt", "shortAt", "putAt":
                return at == 0 && name.startsWith("lens") ? below(2) : below(26) - 1;
            case "lens":
                return at == 0 ? below(2) : below(10) - 1;
            case "house", "pipe", "place":
                return below(9) - 1;
            case "cellText":
                return below(18) - 1;
            default:
                return below(8) == 0 ? below(12) - 1 : below(4);
        }
    }
}
