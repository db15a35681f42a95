import java.nio.Buffer;
import java.nio.InvalidMarkException;
import java.nio.LongBuffer;
import java.nio.ShortBuffer;
import java.util.ArrayList;
import java.util.List;

/** The same face over the buffers of java.nio, whose marks, slices and twins are not ours: to compare with. */
final class NioShelf {
    private static final int FULL = 1;
    private static final int EMPTY = 2;
    private static final int UNMARKED = 3;
    private static final int SEALED = 4;
    private static final int BEYOND = 5;
    private static final int UNFIT = 6;

    private final LongBuffer longs = LongBuffer.allocate(16);
    private final ShortBuffer shorts = ShortBuffer.allocate(36);
    private final int[] firsts = {1, 6, 9};
    private final int[] sizes = {5, 3, 6};
    private final LongBuffer[] writers = new LongBuffer[3];
    private final LongBuffer[] readers = new LongBuffer[3];
    private final boolean[] around = new boolean[3];
    private final ShortBuffer pipe = shorts.slice(1, 10);
    private boolean draining = false;
    private LongBuffer lens0;
    private ShortBuffer lens1;
    private final int[] house = new int[8];

    NioShelf() {
        for (int q = 0; q < 3; q++) {
            writers[q] = longs.slice(firsts[q], sizes[q]);
            readers[q] = writers[q].asReadOnlyBuffer().limit(0);
        }
        lens0 = firstLens0();
        lens1 = shorts.slice(11, 24);
    }

    private LongBuffer firstLens0() {
        return longs.asReadOnlyBuffer().limit(15).position(1);
    }

    private static void index(boolean right) {
        if (!right) {
            throw new IndexOutOfBoundsException();
        }
    }

    private static void argument(boolean right) {
        if (!right) {
            throw new IllegalArgumentException();
        }
    }

    private static boolean within(int value, int last) {
        return 0 <= value && value <= last;
    }

    private int refuse(int kind) {
        house[kind]++;
        return -70000 - kind;
    }

    private int done(int answer) {
        house[0]++;
        return answer;
    }

    private static int markOf(Buffer buffer) {
        try {
            return buffer.duplicate().reset().position();
        } catch (InvalidMarkException e) {
            return -1;
        }
    }

    private long number(int slot) {
        long n = 0;
        for (int k = 0; k < 4; k++) {
            n = n * 65536 + Short.toUnsignedInt(shorts.get(11 + 4 * slot + k));
        }
        return n;
    }

    private int lay(int slot, long number) {
        int others = 0;
        for (int k = 3; k >= 0; k--) {
            short fourth = (short) number;
            number >>= 16;
            others += shorts.get(11 + 4 * slot + k) == fourth ? 0 : 1;
            shorts.put(11 + 4 * slot + k, fourth);
        }
        return others;
    }

    public int lay(int slot, int upper, int lower) {
        index(within(slot, 5));
        return done(lay(slot, upper * 4294967296L + Integer.toUnsignedLong(lower)));
    }

    public int layFourth(int slot, int fourth, int value) {
        index(within(slot, 5));
        argument(within(fourth, 3) && (short) value == value);
        boolean other = fourth(slot, fourth) != value;
        shorts.put(11 + 4 * slot + fourth, (short) value);
        return done(other ? 1 : 0);
    }

    public int upper(int slot) {
        index(within(slot, 5));
        return (int) (number(slot) >>> 32);
    }

    public int lower(int slot) {
        index(within(slot, 5));
        return (int) number(slot);
    }

    public int fourth(int slot, int fourth) {
        index(within(slot, 5));
        argument(within(fourth, 3));
        return shorts.get(11 + 4 * slot + fourth);
    }

    public String slotText(int slot) {
        index(within(slot, 5));
        return Long.toString(number(slot));
    }

    private void settle(int q) {
        LongBuffer w = writers[q];
        LongBuffer r = readers[q];
        if (q < 2) {
            if (w.position() == sizes[q]) {
                w.rewind();
                around[q] = true;
            } else if (around[q] && r.position() == sizes[q]) {
                r.rewind();
                around[q] = false;
            }
        }
        int oldest = oldest(q);
        r.limit(around[q] ? sizes[q] : w.position());
        w.limit(around[q] ? oldest : sizes[q]);
    }

    private int oldest(int q) {
        int mark = markOf(readers[q]);
        return mark == -1 ? readers[q].position() : mark;
    }

    private List<Integer> lying(int q) {
        List<Integer> cells = new ArrayList<>();
        for (int i = readers[q].position(); i < readers[q].limit(); i++) {
            cells.add(i);
        }
        for (int i = 0; around[q] && i < writers[q].position(); i++) {
            cells.add(i);
        }
        return cells;
    }

    public int put(int queue, int slot) {
        index(within(queue, 2) && within(slot, 5));
        if (!writers[queue].hasRemaining()) {
            return refuse(FULL);
        }
        writers[queue].put(number(slot));
        settle(queue);
        return done(lying(queue).size());
    }

    public int take(int queue, int slot) {
        index(within(queue, 2) && within(slot, 5));
        if (!readers[queue].hasRemaining()) {
            return refuse(EMPTY);
        }
        lay(slot, readers[queue].get());
        settle(queue);
        return done(lying(queue).size());
    }

    public int look(int queue, int ahead, int slot) {
        index(within(queue, 2) && within(slot, 5));
        argument(within(ahead, 9));
        List<Integer> cells = lying(queue);
        if (cells.size() <= ahead) {
            return refuse(BEYOND);
        }
        return done(lay(slot, longs.get(firsts[queue] + cells.get(ahead))));
    }

    public int mend(int queue, int ahead, int slot) {
        index(within(queue, 2) && within(slot, 5));
        argument(within(ahead, 9));
        List<Integer> cells = lying(queue);
        if (cells.size() <= ahead) {
            return refuse(BEYOND);
        }
        int cell = firsts[queue] + cells.get(ahead);
        boolean other = longs.get(cell) != number(slot);
        longs.put(cell, number(slot));
        return done(other ? 1 : 0);
    }

    public int mark(int queue) {
        index(within(queue, 2));
        readers[queue].mark();
        settle(queue);
        return done(markOf(readers[queue]));
    }

    public int back(int queue) {
        index(within(queue, 2));
        if (markOf(readers[queue]) == -1) {
            return refuse(UNMARKED);
        }
        int kept = readers[queue].position() - oldest(queue);
        readers[queue].reset();
        settle(queue);
        return done(kept);
    }

    public int forget(int queue) {
        index(within(queue, 2));
        if (markOf(readers[queue]) == -1) {
            return refuse(UNMARKED);
        }
        int place = readers[queue].position();
        int kept = place - oldest(queue);
        readers[queue].rewind().position(place);
        settle(queue);
        return done(kept);
    }

    public int squeeze() {
        int was = readers[2].position();
        int end = writers[2].position();
        writers[2].limit(end).position(was).compact();
        readers[2].clear().limit(end - was);
        return done(was);
    }

    public int empty(int queue) {
        index(within(queue, 2));
        int lay = lying(queue).size();
        writers[queue].clear();
        readers[queue].clear().limit(0);
        around[queue] = false;
        return done(lay);
    }

    public int pass(int queue, int into) {
        index(within(queue, 2) && within(into, 2));
        argument(queue != into);
        int passed = 0;
        while (readers[queue].hasRemaining() && writers[into].hasRemaining()) {
            writers[into].put(readers[queue].get());
            settle(queue);
            settle(into);
            passed++;
        }
        return done(passed);
    }

    public int poke(int queue, int how) {
        index(within(queue, 2));
        argument(within(how, 3));
        return refuse(SEALED);
    }

    public int lies(int queue) {
        index(within(queue, 2));
        return lying(queue).size();
    }

    public int room(int queue) {
        index(within(queue, 2));
        int room = writers[queue].remaining();
        return queue == 2 || around[queue] ? room : room + oldest(queue);
    }

    public boolean isEmpty(int queue) {
        index(within(queue, 2));
        return !readers[queue].hasRemaining();
    }

    public boolean isFull(int queue) {
        index(within(queue, 2));
        return !writers[queue].hasRemaining();
    }

    public int place(int queue, int what) {
        index(within(queue, 2));
        argument(within(what, 6));
        LongBuffer w = writers[queue];
        LongBuffer r = readers[queue];
        return new int[] {w.position(), w.limit(), r.position(), r.limit(), markOf(r), w.capacity(),
            w.arrayOffset()}[what];
    }

    public String queueText(int queue) {
        index(within(queue, 2));
        List<String> texts = new ArrayList<>();
        for (int cell : lying(queue)) {
            texts.add(Long.toString(longs.get(firsts[queue] + cell)));
        }
        return String.join(" ", texts);
    }

    private void filling(boolean wanted) {
        if (draining == wanted) {
            throw new IllegalStateException();
        }
    }

    public int pour(int slot, int fourth) {
        index(within(slot, 5));
        argument(within(fourth, 3));
        filling(true);
        if (!pipe.hasRemaining()) {
            return refuse(FULL);
        }
        return done(pipe.put((short) fourth(slot, fourth)).position());
    }

    public int pourAll(int slot, int from) {
        index(within(slot, 5));
        argument(within(from, 3));
        filling(true);
        int many = 0;
        for (int k = from; k < 4 && pipe.hasRemaining(); k++) {
            pipe.put((short) fourth(slot, k));
            many++;
        }
        return done(many);
    }

    public int draw() {
        filling(false);
        return pipe.hasRemaining() ? done(pipe.get()) : refuse(EMPTY);
    }

    public int drawAll(int slot) {
        index(within(slot, 5));
        filling(false);
        if (pipe.remaining() < 4) {
            return refuse(EMPTY);
        }
        long number = 0;
        for (int k = 0; k < 4; k++) {
            number = number * 65536 + Short.toUnsignedInt(pipe.get());
        }
        return done(lay(slot, number));
    }

    public int turn() {
        if (draining) {
            pipe.compact();
        } else {
            pipe.flip();
        }
        draining = !draining;
        return done(pipe.remaining());
    }

    public int again() {
        return done(pipe.rewind().remaining());
    }

    public int pipeMark() {
        return done(pipe.mark().position());
    }

    public int pipeBack() {
        return markOf(pipe) == -1 ? refuse(UNMARKED) : done(pipe.reset().position());
    }

    private ShortBuffer lyingInPipe() {
        return draining ? pipe.slice() : pipe.slice(0, pipe.position());
    }

    public int pipe(int what) {
        argument(within(what, 7));
        return new int[] {pipe.position(), pipe.limit(), pipe.remaining(), pipe.capacity(), markOf(pipe),
            draining ? 1 : 0, pipe.arrayOffset(), lyingInPipe().capacity()}[what];
    }

    public String pipeText() {
        List<String> texts = new ArrayList<>();
        for (ShortBuffer left = lyingInPipe(); left.hasRemaining();) {
            texts.add(Short.toString(left.get()));
        }
        return String.join(" ", texts);
    }

    private Buffer lensOf(int lens) {
        index(within(lens, 1));
        return lens == 0 ? lens0 : lens1;
    }

    public int lensPlace(int lens, int at) {
        Buffer asked = lensOf(lens);
        return within(at, asked.limit()) ? done(asked.position(at).remaining()) : refuse(UNFIT);
    }

    public int lensLimit(int lens, int at) {
        Buffer asked = lensOf(lens);
        return within(at, asked.capacity()) ? done(asked.limit(at).remaining()) : refuse(UNFIT);
    }

    public int lensTurn(int lens, int how) {
        Buffer asked = lensOf(lens);
        argument(within(how, 5));
        switch (how) {
            case 0 -> asked.clear();
            case 1 -> asked.flip();
            case 2 -> asked.rewind();
            case 3 -> asked.mark();
            case 4 -> {
                if (markOf(asked) == -1) {
                    return refuse(UNMARKED);
                }
                asked.reset();
            }
            default -> {
                if (asked.isReadOnly()) {
                    return refuse(SEALED);
                }
                lens1.compact();
            }
        }
        return done(asked.position());
    }

    public int lensMake(int lens, int how) {
        index(within(lens, 1));
        argument(within(how, 3));
        if (lens == 0) {
            lens0 = how == 0 ? lens0.duplicate() : how == 1 ? lens0.slice()
                    : how == 2 ? lens0.asReadOnlyBuffer() : firstLens0();
            return done(lens0.capacity());
        }
        lens1 = how == 0 ? lens1.duplicate() : how == 1 ? lens1.slice()
                : how == 2 ? lens1.asReadOnlyBuffer() : shorts.slice(11, 24);
        return done(lens1.capacity());
    }

    public int lensCut(int lens, int from, int many) {
        Buffer asked = lensOf(lens);
        if (!within(from, asked.limit()) || !within(many, asked.limit() - from)) {
            return refuse(BEYOND);
        }
        if (lens == 0) {
            lens0 = lens0.slice(from, many);
        } else {
            lens1 = lens1.slice(from, many);
        }
        return done(many);
    }

    public int lens(int lens, int what) {
        Buffer asked = lensOf(lens);
        argument(within(what, 8));
        return new int[] {asked.position(), asked.limit(), asked.capacity(), asked.remaining(), markOf(asked),
            asked.isReadOnly() ? 1 : 0, asked.hasArray() ? 1 : 0, asked.isDirect() ? 1 : 0,
            asked.hasArray() ? asked.arrayOffset() : -1}[what];
    }

    public int nextLong(int slot) {
        index(within(slot, 5));
        return lens0.hasRemaining() ? done(lay(slot, lens0.get())) : refuse(EMPTY);
    }

    public int longAt(int at, int slot) {
        index(within(slot, 5));
        return within(at, lens0.limit() - 1) ? done(lay(slot, lens0.get(at))) : refuse(BEYOND);
    }

    public int nextShort() {
        return lens1.hasRemaining() ? done(lens1.get()) : refuse(EMPTY);
    }

    public int shortAt(int at) {
        return within(at, lens1.limit() - 1) ? done(lens1.get(at)) : refuse(BEYOND);
    }

    public int putNext(int value) {
        argument((short) value == value);
        if (lens1.isReadOnly()) {
            return refuse(SEALED);
        }
        if (!lens1.hasRemaining()) {
            return refuse(FULL);
        }
        boolean other = lens1.get(lens1.position()) != value;
        lens1.put((short) value);
        return done(other ? 1 : 0);
    }

    public int putAt(int at, int value) {
        argument((short) value == value);
        if (!within(at, lens1.limit() - 1)) {
            return refuse(BEYOND);
        }
        if (lens1.isReadOnly()) {
            return refuse(SEALED);
        }
        boolean other = lens1.get(at) != value;
        lens1.put(at, (short) value);
        return done(other ? 1 : 0);
    }

    public String cellText(int cell) {
        index(within(cell, 15));
        return Long.toString(longs.get(cell));
    }

    public int house(int what) {
        argument(within(what, 7));
        return house[what];
    }

    public int knock() {
        return ++house[7];
    }

    public boolean isSound() {
        return true;
    }

    public long digest() {
        List<Integer> vs = new ArrayList<>();
        for (int slot = 0; slot < 6; slot++) {
            vs.add(upper(slot));
            vs.add(lower(slot));
        }
        for (int q = 0; q < 3; q++) {
            vs.add(lies(q));
            vs.add(room(q));
            for (int what = 0; what < 7; what++) {
                vs.add(place(q, what));
            }
            vs.add(queueText(q).length());
        }
        for (int cell = 0; cell < 16; cell++) {
            vs.add((int) (longs.get(cell) >>> 32));
            vs.add((int) longs.get(cell));
        }
        for (int what = 0; what < 8; what++) {
            vs.add(pipe(what));
        }
        vs.add(pipeText().length());
        for (int what = 0; what < 18; what++) {
            vs.add(lens(what / 9, what % 9));
        }
        for (int what = 0; what < 8; what++) {
            vs.add(house[what]);
        }
        vs.add(1);
        long d = 7701;
        for (int v : vs) {
            d = d * 31 + v;
        }
        return d;
    }
}
