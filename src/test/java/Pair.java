import java.lang.reflect.InvocationTargetException;
import java.lang.reflect.Method;
import java.lang.reflect.Modifier;
import java.util.Arrays;
import java.util.Comparator;
import java.util.List;
import java.util.Map;
import java.util.stream.Collectors;

/** An object of Sluiceshelf and one of NioShelf that get the same calls. */
final class Pair {
    /** All methods of the face, in the order of their names, which are all different. */
    static final List<Method> FACE = Arrays.stream(Sluiceshelf.class.getDeclaredMethods())
            .filter(m -> Modifier.isPublic(m.getModifiers())).sorted(Comparator.comparing(Method::getName)).toList();

    private static final Map<String, Method> OURS = FACE.stream().collect(Collectors.toMap(Method::getName, m -> m));
    private static final Map<String, Method> THEIRS = FACE.stream()
            .collect(Collectors.toMap(Method::getName, Pair::modelMethod));

    record Call(String name, Object... args) {
        @Override
        public String toString() {
            return name + Arrays.toString(args);
        }
    }

    final NioShelf model = new NioShelf();
    private final Sluiceshelf ours = new Sluiceshelf();

    private static Method modelMethod(Method method) {
        try {
            return NioShelf.class.getDeclaredMethod(method.getName(), method.getParameterTypes());
        } catch (NoSuchMethodException e) {
            throw new IllegalStateException(e);
        }
    }

    /** Makes a call on both; false if they answer differently, which is told. */
    boolean answersAlike(String about, Call call) {
        Object got = ours(call);
        Object want = theirs(call);
        if (!got.equals(want)) {
            Probe.due(about + ", " + call, got, want);
        }
        return got.equals(want);
    }

    Object ours(Call call) {
        return answer(OURS.get(call.name()), ours, call.args());
    }

    Object theirs(Call call) {
        return answer(THEIRS.get(call.name()), model, call.args());
    }

    boolean standsAlike(String about) {
        boolean alike = ours.digest() == model.digest() && ours.isSound();
        if (!alike) {
            Probe.due(about + ", the state", "another", "that of the model");
        }
        return alike;
    }

    private static Object answer(Method method, Object on, Object[] args) {
        try {
            return method.invoke(on, args);
        } catch (InvocationTargetException e) {
            return "throws " + e.getCause().getClass().getSimpleName();
        } catch (IllegalAccessException e) {
            throw new IllegalStateException(e);
        }
    }
}
