import java.io.IOException;
import java.util.ArrayList;
import java.util.Arrays;
import java.util.List;
import java.util.Set;
import java.util.TreeSet;

/**
 * Each argument of each method at the least and the greatest that is let, one too small, one too large, and at the ends
 * of int, in all combinations: which exception is thrown (of several the one that is named first), and that a method
 * that throws changes nothing.
 */
public final class ArgumentEdgeTest {
    private static final int MIN = Integer.MIN_VALUE;
    private static final int MAX = Integer.MAX_VALUE;

    private interface Called {
        Object of(Sluiceshelf x, int[] a);
    }

    /** What an argument may be; kind is what is thrown otherwise, or null where any int is let. */
    private record Range(int least, int greatest, Class<?> kind) {
        boolean lets(int value) {
            return kind == null || least <= value && value <= greatest;
        }

        int[] edges() {
            return kind == null ? new int[] {MIN, -1, 0, MAX}
                    : new int[] {least, greatest, least - 1, greatest + 1, MIN, MAX};
        }

        /** What the document says of an argument of this name. */
        String thrown(String name) {
            String between = greatest == least + 1 ? " or " : " to ";
            return kind.getSimpleName() + " if " + name + " is not " + least + between + greatest;
        }
    }

    private record Method(int promise, String name, Called called, Range... ranges) {
    }

    private static final Range SLOT = new Range(0, 5, Probe.INDEX);
    private static final Range QUEUE = new Range(0, 2, Probe.INDEX);
    private static final Range LENS = new Range(0, 1, Probe.INDEX);
    private static final Range CELL = new Range(0, 15, Probe.INDEX);
    private static final Range FOURTH = new Range(0, 3, Probe.ARGUMENT);
    private static final Range VALUE = new Range(-32768, 32767, Probe.ARGUMENT);
    private static final Range AHEAD = new Range(0, 9, Probe.ARGUMENT);
    private static final Range ANY = new Range(0, 0, null);

    private static final List<Method> SHELF = List.of(
            new Method(2, "lay", (x, a) -> x.lay(a[0], a[1], a[2]), SLOT, ANY, ANY),
            new Method(3, "layFourth", (x, a) -> x.layFourth(a[0], a[1], a[2]), SLOT, FOURTH, VALUE),
            new Method(4, "upper", (x, a) -> x.upper(a[0]), SLOT),
            new Method(5, "lower", (x, a) -> x.lower(a[0]), SLOT),
            new Method(6, "fourth", (x, a) -> x.fourth(a[0], a[1]), SLOT, FOURTH),
            new Method(7, "slotText", (x, a) -> x.slotText(a[0]), SLOT));

    private static final List<Method> QUEUES = List.of(
            new Method(8, "put", (x, a) -> x.put(a[0], a[1]), QUEUE, SLOT),
            new Method(9, "take", (x, a) -> x.take(a[0], a[1]), QUEUE, SLOT),
            new Method(10, "look", (x, a) -> x.look(a[0], a[1], a[2]), QUEUE, AHEAD, SLOT),
            new Method(11, "mend", (x, a) -> x.mend(a[0], a[1], a[2]), QUEUE, AHEAD, SLOT),
            new Method(12, "mark", (x, a) -> x.mark(a[0]), QUEUE),
            new Method(13, "back", (x, a) -> x.back(a[0]), QUEUE),
            new Method(14, "forget", (x, a) -> x.forget(a[0]), QUEUE),
            new Method(15, "squeeze", (x, a) -> x.squeeze()),
            new Method(16, "empty", (x, a) -> x.empty(a[0]), QUEUE),
            new Method(17, "pass", (x, a) -> x.pass(a[0], a[1]), QUEUE, QUEUE),
            new Method(18, "poke", (x, a) -> x.poke(a[0], a[1]), QUEUE, upTo(3)),
            new Method(19, "lies", (x, a) -> x.lies(a[0]), QUEUE),
            new Method(20, "room", (x, a) -> x.room(a[0]), QUEUE),
            new Method(21, "isEmpty", (x, a) -> x.isEmpty(a[0]), QUEUE),
            new Method(22, "isFull", (x, a) -> x.isFull(a[0]), QUEUE),
            new Method(23, "place", (x, a) -> x.place(a[0], a[1]), QUEUE, upTo(6)),
            new Method(24, "queueText", (x, a) -> x.queueText(a[0]), QUEUE));

    private static final List<Method> FILLS = List.of(
            new Method(25, "pour", (x, a) -> x.pour(a[0], a[1]), SLOT, FOURTH),
            new Method(26, "pourAll", (x, a) -> x.pourAll(a[0], a[1]), SLOT, FOURTH));

    private static final List<Method> DRAINS = List.of(
            new Method(27, "draw", (x, a) -> x.draw()),
            new Method(28, "drawAll", (x, a) -> x.drawAll(a[0]), SLOT));

    private static final List<Method> PIPE = List.of(
            new Method(29, "turn", (x, a) -> x.turn()),
            new Method(30, "again", (x, a) -> x.again()),
            new Method(31, "pipeMark", (x, a) -> x.pipeMark()),
            new Method(32, "pipeBack", (x, a) -> x.pipeBack()),
            new Method(33, "pipe", (x, a) -> x.pipe(a[0]), upTo(7)),
            new Method(34, "pipeText", (x, a) -> x.pipeText()));

    private static final List<Method> LENSES = List.of(
            new Method(35, "lensPlace", (x, a) -> x.lensPlace(a[0], a[1]), LENS, ANY),
            new Method(36, "lensLimit", (x, a) -> x.lensLimit(a[0], a[1]), LENS, ANY),
            new Method(37, "lensTurn", (x, a) -> x.lensTurn(a[0], a[1]), LENS, upTo(5)),
            new Method(38, "lensMake", (x, a) -> x.lensMake(a[0], a[1]), LENS, upTo(3)),
            new Method(39, "lensCut", (x, a) -> x.lensCut(a[0], a[1], a[2]), LENS, ANY, ANY),
            new Method(40, "lens", (x, a) -> x.lens(a[0], a[1]), LENS, upTo(8)),
            new Method(41, "nextLong", (x, a) -> x.nextLong(a[0]), SLOT),
            new Method(42, "longAt", (x, a) -> x.longAt(a[0], a[1]), ANY, SLOT),
            new Method(43, "nextShort", (x, a) -> x.nextShort()),
            new Method(44, "shortAt", (x, a) -> x.shortAt(a[0]), ANY),
            new Method(45, "putNext", (x, a) -> x.putNext(a[0]), VALUE),
            new Method(46, "putAt", (x, a) -> x.putAt(a[0], a[1]), ANY, VALUE));

    private static final List<Method> WHOLE = List.of(
            new Method(47, "cellText", (x, a) -> x.cellText(a[0]), CELL),
            new Method(48, "house", (x, a) -> x.house(a[0]), upTo(7)),
            new Method(49, "knock", (x, a) -> x.knock()),
            new Method(50, "isSound", (x, a) -> x.isSound()),
            new Method(51, "digest", (x, a) -> x.digest()));

    public static void main(String[] args) throws IOException {
        asDocumented();
        inState(new Probe("a new object"), false);
        inState(new Probe("new, draining").with(x -> x.turn()), true);
        inState(busy(), false);
        inState(busy().with(x -> x.turn()), true);
        inState(new Probe("full, filling").with(x -> x.pourAll(0, 0)).with(x -> x.pourAll(0, 0))
                .with(x -> x.pourAll(0, 0)), false);
        Probe.end();
    }

    /** The ranges are the document's, and nothing that it says is thrown is left out. */
    private static void asDocumented() throws IOException {
        List<Method> all = new ArrayList<>();
        for (List<Method> methods : List.of(SHELF, QUEUES, FILLS, DRAINS, PIPE, LENSES, WHOLE)) {
            all.addAll(methods);
        }
        Probe.due("methods, but for the constructor", all.size(), Doc.promises().size() - 1);
        for (Method method : all) {
            Doc.Promise promise = Doc.promises().get(method.promise() - 1);
            Probe.due("promise " + method.promise(), method.name(), promise.name());
            Set<String> said = new TreeSet<>(promise.thrown());
            Probe.due("thrown by " + method.name() + ", document", said, thrown(method, promise));
        }
    }

    private static Set<String> thrown(Method method, Doc.Promise promise) {
        Set<String> thrown = new TreeSet<>();
        String[] names = promise.call().replaceAll(".*\\(|\\)", "").split(", ");
        for (int i = 0; i < method.ranges().length; i++) {
            if (method.ranges()[i].kind() != null) {
                thrown.add(method.ranges()[i].thrown(names[i]));
            }
        }
        if (method.name().equals("pass")) {
            thrown.add("IllegalArgumentException if both are the same");
        }
        if (FILLS.contains(method) || DRAINS.contains(method)) {
            thrown.add("IllegalStateException if the PIPE is " + (FILLS.contains(method) ? "DRAINING" : "FILLING"));
        }
        return thrown;
    }

    private static Range upTo(int greatest) {
        return new Range(0, greatest, Probe.ARGUMENT);
    }

    /** Something lies everywhere, is marked and kept, so that a change by a call that throws would be seen. */
    private static Probe busy() {
        Probe p = Told.numbered("busy").with(x -> x.lay(5, -7, 8));
        for (int i = 0; i < 3; i++) {
            int queue = i;
            p.with(x -> x.put(queue, 5)).with(x -> x.put(queue, 1)).with(x -> x.mark(queue));
            p.with(x -> x.take(queue, 2)).with(x -> x.put(queue, 3));
        }
        p.with(x -> x.pourAll(5, 0)).with(x -> x.pipeMark()).with(x -> x.pour(1, 3));
        for (int i = 0; i < 2; i++) {
            int lens = i;
            p.with(x -> x.lensPlace(lens, 2)).with(x -> x.lensTurn(lens, 3)).with(x -> x.lensPlace(lens, 4));
        }
        return p.with(x -> x.knock());
    }

    private static void inState(Probe p, boolean draining) {
        for (List<Method> let : List.of(SHELF, QUEUES, PIPE, LENSES, WHOLE)) {
            check(p, let, null);
        }
        check(p, FILLS, draining ? Probe.STATE : null);
        check(p, DRAINS, draining ? null : Probe.STATE);
    }

    /** State is what is thrown if the arguments are right. */
    private static void check(Probe p, List<Method> methods, Class<?> state) {
        for (Method method : methods) {
            for (int[] args : combinations(method.ranges())) {
                Probe one = p.branch("promise " + method.promise() + ", " + method.name() + Arrays.toString(args));
                one.thrown(due(method, args, state), x -> method.called().of(x, args));
            }
        }
    }

    private static Class<?> due(Method method, int[] args, Class<?> state) {
        for (Class<?> kind : List.of(Probe.INDEX, Probe.ARGUMENT)) {
            for (int i = 0; i < args.length; i++) {
                if (method.ranges()[i].kind() == kind && !method.ranges()[i].lets(args[i])) {
                    return kind;
                }
            }
        }
        return method.name().equals("pass") && args[0] == args[1] ? Probe.ARGUMENT : state;
    }

    private static List<int[]> combinations(Range[] ranges) {
        List<int[]> all = List.of(new int[0]);
        for (Range range : ranges) {
            List<int[]> longer = new ArrayList<>();
            for (int[] begun : all) {
                for (int edge : range.edges()) {
                    int[] more = Arrays.copyOf(begun, begun.length + 1);
                    more[begun.length] = edge;
                    longer.add(more);
                }
            }
            all = longer;
        }
        return all;
    }
}
