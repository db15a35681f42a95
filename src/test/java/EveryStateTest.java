import java.util.ArrayDeque;
import java.util.ArrayList;
import java.util.Deque;
import java.util.HashSet;
import java.util.List;
import java.util.Set;
import java.util.function.Function;
import java.util.function.IntFunction;

/**
 * Every state that the places of a queue, of the pipe or of a small lens can come to, and every call in each of them,
 * beside NioShelf: so each edge is met with a mark and without one, however it was come to.
 */
public final class EveryStateTest {
    private static final int FEWEST_STATES = 20;

    public static void main(String[] args) {
        for (int queue = 0; queue < 3; queue++) {
            int one = queue;
            every("queue " + queue, filledSlots(), queueCalls(queue), model -> queueKey(model, one));
        }
        every("rings 0 and 1", filledSlots(), callsOfTwo(0, 1), model -> queueKey(model, 0) + queueKey(model, 1));
        every("ring 1 and the line", filledSlots(), callsOfTwo(1, 2), model -> queueKey(model, 1) + queueKey(model, 2));
        every("pipe", filledSlots(), pipeCalls(), EveryStateTest::pipeKey);
        every("lens 0", smallLens(0, 6), lensCalls(0), model -> lensKey(model, 0));
        every("lens 1", smallLens(1, 17), lensCalls(1), model -> lensKey(model, 1));
        Probe.end();
    }

    /** What is called may go by how many calls were made before, so that other numbers come each time. */
    private static void every(String about, List<Pair.Call> start, List<IntFunction<Pair.Call>> calls,
            Function<NioShelf, String> key) {
        Set<String> met = new HashSet<>();
        Deque<List<Pair.Call>> left = new ArrayDeque<>();
        met.add(key.apply(after(about, start).model));
        left.add(start);
        while (!left.isEmpty()) {
            List<Pair.Call> path = left.remove();
            for (IntFunction<Pair.Call> next : calls) {
                Pair pair = after(about, path);
                Pair.Call call = next.apply(path.size());
                if (!pair.answersAlike(about, call) || !pair.standsAlike(about)) {
                    System.out.println("that was " + call + " after " + path);
                    return;
                }
                if (met.add(key.apply(pair.model))) {
                    List<Pair.Call> longer = new ArrayList<>(path);
                    longer.add(call);
                    left.add(longer);
                }
            }
        }
        Probe.due(about + ", states met", met.size() > FEWEST_STATES, true);
    }

    private static Pair after(String about, List<Pair.Call> path) {
        Pair pair = new Pair();
        for (Pair.Call call : path) {
            pair.answersAlike(about, call);
        }
        return pair;
    }

    private static List<Pair.Call> filledSlots() {
        List<Pair.Call> calls = new ArrayList<>();
        for (int slot = 0; slot < 6; slot++) {
            calls.add(new Pair.Call("lay", slot, slot * 65536 - 3, slot - 65538));
        }
        return calls;
    }

    private static List<IntFunction<Pair.Call>> queueCalls(int queue) {
        List<IntFunction<Pair.Call>> calls = new ArrayList<>();
        calls.add(k -> new Pair.Call("put", queue, k % 5));
        calls.add(k -> new Pair.Call("take", queue, 5));
        for (int i = 0; i < 7; i++) {
            int ahead = i;
            calls.add(k -> new Pair.Call("look", queue, ahead, 5));
            calls.add(k -> new Pair.Call("mend", queue, ahead, k % 5));
        }
        for (String name : List.of("mark", "back", "forget", "empty")) {
            calls.add(k -> new Pair.Call(name, queue));
        }
        calls.add(k -> new Pair.Call("squeeze"));
        calls.add(k -> new Pair.Call("poke", queue, k % 4));
        return calls;
    }

    private static List<IntFunction<Pair.Call>> callsOfTwo(int one, int other) {
        List<IntFunction<Pair.Call>> calls = new ArrayList<>();
        for (int queue : new int[] {one, other}) {
            calls.add(k -> new Pair.Call("put", queue, k % 5));
            calls.add(k -> new Pair.Call("take", queue, 5));
            calls.add(k -> new Pair.Call("mark", queue));
        }
        calls.add(k -> new Pair.Call("pass", one, other));
        calls.add(k -> new Pair.Call("pass", other, one));
        return calls;
    }

    private static String queueKey(NioShelf model, int queue) {
        StringBuilder key = new StringBuilder();
        for (int what = 0; what < 5; what++) {
            key.append(model.place(queue, what)).append(' ');
        }
        return key.toString();
    }

    private static List<IntFunction<Pair.Call>> pipeCalls() {
        List<IntFunction<Pair.Call>> calls = new ArrayList<>();
        for (int i = 0; i < 4; i++) {
            int fourth = i;
            calls.add(k -> new Pair.Call("pour", k % 5, fourth));
            calls.add(k -> new Pair.Call("pourAll", k % 5, fourth));
        }
        for (String name : List.of("draw", "turn", "again", "pipeMark", "pipeBack", "pipeText")) {
            calls.add(k -> new Pair.Call(name));
        }
        calls.add(k -> new Pair.Call("drawAll", 5));
        return calls;
    }

    private static String pipeKey(NioShelf model) {
        return model.pipe(0) + " " + model.pipe(1) + " " + model.pipe(4) + " " + model.pipe(5);
    }

    /** A lens with three cells, and something in these. */
    private static List<Pair.Call> smallLens(int lens, int from) {
        List<Pair.Call> calls = filledSlots();
        for (int slot = 0; slot < 3; slot++) {
            calls.add(new Pair.Call("put", 1, slot));
        }
        calls.add(new Pair.Call("lensCut", lens, from, 3));
        return calls;
    }

    private static List<IntFunction<Pair.Call>> lensCalls(int lens) {
        List<IntFunction<Pair.Call>> calls = new ArrayList<>();
        for (int i = -1; i < 5; i++) {
            int at = i;
            calls.add(k -> new Pair.Call("lensPlace", lens, at));
            calls.add(k -> new Pair.Call("lensLimit", lens, at));
            calls.add(k -> new Pair.Call("longAt", at, 5));
            calls.add(k -> new Pair.Call("shortAt", at));
            calls.add(k -> new Pair.Call("putAt", at, k - 10));
            for (int j = -1; j < 5; j++) {
                int many = j;
                calls.add(k -> new Pair.Call("lensCut", lens, at, many));
            }
        }
        for (int i = 0; i < 6; i++) {
            int how = i;
            calls.add(k -> new Pair.Call("lensTurn", lens, how));
        }
        for (int i = 0; i < 3; i++) {
            int how = i;
            calls.add(k -> new Pair.Call("lensMake", lens, how));
        }
        calls.add(k -> new Pair.Call("nextLong", 5));
        calls.add(k -> new Pair.Call("nextShort"));
        calls.add(k -> new Pair.Call("putNext", k - 20));
        return calls;
    }

    private static String lensKey(NioShelf model, int lens) {
        StringBuilder key = new StringBuilder();
        for (int what = 0; what < 9; what++) {
            key.append(model.lens(lens, what)).append(' ');
        }
        return key.toString();
    }
}
