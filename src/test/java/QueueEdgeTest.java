/**
 * The queues at their edges: empty, full and both; a ring that goes around and comes back, with a mark and without one;
 * kept ones set back and forgotten; the room in each of these.
 */
public final class QueueEdgeTest {
    private static final int[] SIZES = {5, 3, 6};

    public static void main(String[] args) {
        emptyAndFull();
        roomOneByOne();
        lineIsBothAtItsEnd();
        lineAtItsEndGetsRoom();
        ringAroundFromEachPlace();
        ringFillsOnTheWayAround();
        markHoldsTheRoom();
        markIsGoneWithTheRewoundReader();
        markBeforeTheEndStays();
        backWhileAround();
        forgetGivesRoom();
        markAgainLetsGo();
        markAtTheReaderKeepsNone();
        lineMarksHoldNoRoom();
        squeezeForgetsTheKept();
        squeezeAtBothEnds();
        emptyAround();
        lookAcrossTheEnd();
        mendAcrossTheEnd();
        passStopsAtFull();
        passStopsAtEmpty();
        passTakesAndKeeps();
        passGoesAround();
        queuesDoNotTouch();
        Probe.end();
    }

    private static void emptyAndFull() {
        String[] texts = {"1 2 3 4 5", "1 2 3", "1 2 3 4 5 6"};
        for (int i = 0; i < 3; i++) {
            int queue = i;
            Probe p = Told.numbered("section 4, empty and full, queue " + queue);
            Told.queue(p, queue, "", SIZES[i], false, true);
            Told.put(p, queue, SIZES[i]);
            Told.queue(p, queue, texts[i], 0, true, false);
            p.with(x -> x.empty(queue));
            Told.queue(p, queue, "", SIZES[i], false, true);
        }
    }

    /** With one in, and with room for one, a queue is neither. */
    private static void roomOneByOne() {
        for (int i = 0; i < 3; i++) {
            int queue = i;
            int size = SIZES[i];
            for (int k = 1; k < size; k++) {
                Probe p = Told.numbered("section 4, room, queue " + queue + " with " + k);
                Told.put(p, queue, k);
                p.tells(size - k, x -> x.room(queue)).tells(k, x -> x.lies(queue));
                p.tells(false, x -> x.isFull(queue)).tells(false, x -> x.isEmpty(queue));
                Told.places(p, queue, k, size, 0, k, -1);
            }
        }
    }

    private static void lineIsBothAtItsEnd() {
        Probe p = Told.numbered("section 4, the line is both at its end");
        Told.put(p, 2, 6);
        Told.take(p, 2, 5);
        Told.queue(p, 2, "6", 0, true, false);
        p.act(0, x -> x.take(2, 5));
        Told.queue(p, 2, "", 0, true, true);
        Told.places(p, 2, 6, 6, 6, 6, -1, 6, 9);
        p.refused(Probe.FULL, x -> x.put(2, 0)).refused(Probe.EMPTY, x -> x.take(2, 0));
        p.refused(Probe.BEYOND, x -> x.look(2, 0, 0)).refused(Probe.BEYOND, x -> x.mend(2, 0, 0));
        p.with(x -> x.put(0, 0)).actWithoutChange(0, x -> x.pass(0, 2)).actWithoutChange(0, x -> x.pass(2, 0));
        p.act(6, x -> x.mark(2)).tells(6, x -> x.place(2, 4)).act(0, x -> x.back(2)).act(0, x -> x.forget(2));
        Told.queue(p, 2, "", 0, true, true);
    }

    private static void lineAtItsEndGetsRoom() {
        Probe p = Told.numbered("section 4, the line behind its end");
        Told.put(p, 2, 6);
        p.act(0, x -> x.mark(2));
        Told.take(p, 2, 6);
        p.branch("promise 13, all of the line set back").act(6, x -> x.back(2))
                .tells("1 2 3 4 5 6", x -> x.queueText(2)).refused(Probe.FULL, x -> x.put(2, 0));
        Probe squeezed = p.branch("promise 15, at the end of the line").act(6, x -> x.squeeze());
        Told.queue(squeezed, 2, "", 6, false, true);
        Told.places(squeezed, 2, 0, 6, 0, 0, -1);
        squeezed.refused(Probe.UNMARKED, x -> x.back(2)).act(1, x -> x.put(2, 0));
        Probe emptied = p.branch("promise 16, at the end of the line").act(0, x -> x.empty(2));
        Told.queue(emptied, 2, "", 6, false, true);
        Told.places(emptied, 2, 0, 6, 0, 0, -1);
        emptied.refused(Probe.UNMARKED, x -> x.back(2)).act(1, x -> x.put(2, 0));
    }

    /** A ring with start many gone through, filled, then emptied: around from the last cell on, and back. */
    private static void ringAroundFromEachPlace() {
        for (int queue = 0; queue < 2; queue++) {
            for (int start = 0; start < SIZES[queue]; start++) {
                ringAround(queue, start, false);
                ringAround(queue, start, true);
            }
        }
    }

    private static void ringAround(int queue, int start, boolean marked) {
        int size = SIZES[queue];
        Probe p = Told.numbered("section 4, ring " + queue + " around from " + start + (marked ? ", marked" : ""));
        Told.put(p, queue, start);
        Told.take(p, queue, start);
        if (marked) {
            p.act(start, x -> x.mark(queue));
        }
        for (int in = start; in < start + size; in++) {
            ringAt(p, queue, in, start, marked ? start : -1);
            p.act(in - start + 1, x -> x.put(queue, 0));
        }
        p.refused(Probe.FULL, x -> x.put(queue, 0));
        int end = start + size;
        for (int out = start; out < end; out++) {
            ringAt(p, queue, end, out, marked && out < size ? start : -1);
            p.act(end - out - 1, x -> x.take(queue, 5));
        }
        ringAt(p, queue, end, end, -1);
        p.refused(Probe.EMPTY, x -> x.take(queue, 5));
    }

    /** What a ring tells when so many have come in and gone out since it was new; mark -1: it has none. */
    private static void ringAt(Probe p, int queue, int in, int out, int mark) {
        int size = SIZES[queue];
        int oldest = mark < 0 ? out : mark;
        int writerLimit = in / size > out / size ? oldest % size : size;
        int readerLimit = in / size > out / size ? size : in % size;
        boolean keepsMark = mark >= 0 && out < size;
        Told.places(p, queue, in % size, writerLimit, out % size, readerLimit, keepsMark ? mark : -1);
        int room = size - (in - (keepsMark ? mark : out));
        p.tells(in - out, x -> x.lies(queue)).tells(room, x -> x.room(queue));
        p.tells(room == 0, x -> x.isFull(queue)).tells(in == out, x -> x.isEmpty(queue));
    }

    private static void ringFillsOnTheWayAround() {
        Probe p = Told.numbered("section 4, the writer is rewound, then the reader");
        Told.put(p, 1, 2);
        Told.take(p, 1, 2);
        Told.places(p, 1, 2, 3, 2, 2, -1);
        p.act(1, x -> x.put(1, 0));
        Told.places(p, 1, 0, 2, 2, 3, -1);
        Told.queue(p, 1, "1", 2, false, false);
        p.act(0, x -> x.take(1, 5));
        Told.places(p, 1, 0, 3, 0, 0, -1);
        Told.queue(p, 1, "", 3, false, true);
    }

    private static void markHoldsTheRoom() {
        Probe p = Told.numbered("section 4, kept ones are no room");
        Told.put(p, 0, 4);
        Told.take(p, 0, 1);
        p.act(1, x -> x.mark(0)).act(2, x -> x.take(0, 5)).act(1, x -> x.take(0, 5));
        Told.queue(p, 0, "4", 2, false, false);
        p.act(2, x -> x.put(0, 4));
        Told.places(p, 0, 0, 1, 3, 5, 1);
        Told.queue(p, 0, "4 5", 1, false, false);
        p.act(3, x -> x.put(0, 0));
        Told.queue(p, 0, "4 5 1", 0, true, false);
        p.refused(Probe.FULL, x -> x.put(0, 0)).act(2, x -> x.back(0));
        Told.queue(p, 0, "2 3 4 5 1", 0, true, false);
        Told.places(p, 0, 1, 1, 1, 5, 1);
    }

    private static void markIsGoneWithTheRewoundReader() {
        Probe p = Told.numbered("section 4, the rewound reader's mark is gone");
        Told.put(p, 0, 5);
        p.act(0, x -> x.mark(0));
        Told.take(p, 0, 4);
        Told.places(p, 0, 0, 0, 4, 5, 0);
        Told.queue(p, 0, "5", 0, true, false);
        p.act(0, x -> x.take(0, 5));
        Told.places(p, 0, 0, 5, 0, 0, -1);
        Told.queue(p, 0, "", 5, false, true);
        p.refused(Probe.UNMARKED, x -> x.back(0)).refused(Probe.UNMARKED, x -> x.forget(0));
        Probe later = Told.numbered("section 4, a mark behind which others lie");
        Told.put(later, 1, 3);
        Told.take(later, 1, 2);
        later.act(2, x -> x.mark(1)).act(2, x -> x.put(1, 3)).act(1, x -> x.take(1, 5));
        Told.places(later, 1, 1, 3, 0, 1, -1);
        Told.queue(later, 1, "4", 2, false, false);
        later.refused(Probe.UNMARKED, x -> x.back(1));
    }

    /** Only the reader's own end takes the mark: the writer's end does not. */
    private static void markBeforeTheEndStays() {
        Probe p = Told.numbered("section 4, the writer goes around a mark");
        Told.put(p, 1, 2);
        p.act(0, x -> x.mark(1)).act(1, x -> x.take(1, 5)).act(2, x -> x.put(1, 2));
        Told.places(p, 1, 0, 0, 1, 3, 0);
        Told.queue(p, 1, "2 3", 0, true, false);
        p.act(1, x -> x.back(1)).tells("1 2 3", x -> x.queueText(1));
    }

    private static void backWhileAround() {
        Probe p = Told.numbered("promise 13, around");
        Told.put(p, 0, 4);
        Told.take(p, 0, 3);
        p.act(3, x -> x.mark(0)).act(2, x -> x.put(0, 4)).act(3, x -> x.put(0, 0)).act(2, x -> x.take(0, 5));
        Told.places(p, 0, 1, 3, 4, 5, 3);
        Told.queue(p, 0, "5 1", 2, false, false);
        p.act(1, x -> x.back(0));
        Told.places(p, 0, 1, 3, 3, 5, 3);
        Told.queue(p, 0, "4 5 1", 2, false, false);
        p.actWithoutChange(0, x -> x.back(0)).act(2, x -> x.take(0, 5)).act(1, x -> x.back(0));
    }

    private static void forgetGivesRoom() {
        Probe p = Told.numbered("promise 14, the room of the kept ones");
        Told.put(p, 0, 5);
        p.act(0, x -> x.mark(0)).act(4, x -> x.take(0, 5)).act(3, x -> x.take(0, 5));
        p.tells(0, x -> x.room(0)).tells(true, x -> x.isFull(0)).act(2, x -> x.forget(0));
        Told.places(p, 0, 0, 2, 2, 5, -1);
        Told.queue(p, 0, "3 4 5", 2, false, false);
        p.act(4, x -> x.put(0, 0)).act(5, x -> x.put(0, 0)).refused(Probe.FULL, x -> x.put(0, 0));
        Probe notAround = Told.numbered("promise 14, not around");
        Told.put(notAround, 1, 2);
        notAround.act(0, x -> x.mark(1)).act(1, x -> x.take(1, 5)).tells(1, x -> x.room(1));
        notAround.act(1, x -> x.forget(1)).tells(2, x -> x.room(1)).tells("2", x -> x.queueText(1));
    }

    private static void markAgainLetsGo() {
        Probe p = Told.numbered("promise 12, those that were kept are not any more");
        Told.put(p, 1, 3);
        p.act(0, x -> x.mark(1)).act(2, x -> x.take(1, 5)).tells(0, x -> x.room(1)).act(1, x -> x.mark(1));
        Told.places(p, 1, 0, 1, 1, 3, 1);
        Told.queue(p, 1, "2 3", 1, false, false);
        p.act(0, x -> x.back(1)).tells("2 3", x -> x.queueText(1)).act(3, x -> x.put(1, 3));
        p.tells("4", x -> x.cellText(6));
    }

    private static void markAtTheReaderKeepsNone() {
        for (int i = 0; i < 3; i++) {
            int queue = i;
            Probe p = Told.numbered("promise 12, none kept, queue " + queue);
            p.act(0, x -> x.mark(queue)).tells(0, x -> x.place(queue, 4)).tells(SIZES[i], x -> x.room(queue));
            p.actWithoutChange(0, x -> x.mark(queue)).actWithoutChange(0, x -> x.back(queue));
            p.act(0, x -> x.forget(queue)).tells(-1, x -> x.place(queue, 4));
        }
    }

    private static void lineMarksHoldNoRoom() {
        Probe p = Told.numbered("section 4, the room of the line");
        Told.put(p, 2, 3);
        p.act(0, x -> x.mark(2));
        Told.take(p, 2, 2);
        Told.queue(p, 2, "3", 3, false, false);
        p.branch("promise 13, the line").act(2, x -> x.back(2)).tells(3, x -> x.room(2))
                .tells("1 2 3", x -> x.queueText(2)).tells(0, x -> x.place(2, 4));
        p.branch("promise 14, the line").act(2, x -> x.forget(2)).tells(3, x -> x.room(2))
                .tells("3", x -> x.queueText(2)).refused(Probe.UNMARKED, x -> x.back(2));
        p.act(2, x -> x.put(2, 3)).act(3, x -> x.put(2, 4)).act(4, x -> x.put(2, 0));
        Told.queue(p, 2, "3 4 5 1", 0, true, false);
        p.refused(Probe.FULL, x -> x.put(2, 0));
        Told.places(p, 2, 6, 6, 2, 6, 0);
    }

    private static void squeezeForgetsTheKept() {
        Probe p = Told.numbered("promise 15, kept ones are written over");
        Told.put(p, 2, 4);
        Told.take(p, 2, 1);
        p.act(1, x -> x.mark(2));
        Told.take(p, 2, 1);
        p.act(2, x -> x.squeeze());
        Told.places(p, 2, 2, 6, 0, 2, -1);
        Told.queue(p, 2, "3 4", 4, false, false);
        p.refused(Probe.UNMARKED, x -> x.back(2)).refused(Probe.UNMARKED, x -> x.forget(2));
        p.tells("3", x -> x.cellText(9)).tells("4", x -> x.cellText(10)).tells("3", x -> x.cellText(11));
        p.tells("4", x -> x.cellText(12)).tells("0", x -> x.cellText(13));
    }

    private static void squeezeAtBothEnds() {
        Probe full = Told.numbered("promise 15, a full line from its start on");
        Told.put(full, 2, 6);
        full.actWithoutChange(0, x -> x.squeeze()).act(0, x -> x.mark(2)).act(0, x -> x.squeeze());
        Told.places(full, 2, 6, 6, 0, 6, -1);
        full.tells("1 2 3 4 5 6", x -> x.queueText(2)).refused(Probe.FULL, x -> x.put(2, 0));
        Told.take(full, 2, 1);
        full.act(1, x -> x.squeeze());
        Told.places(full, 2, 5, 6, 0, 5, -1);
        Told.queue(full, 2, "2 3 4 5 6", 1, false, false);
        full.tells("6", x -> x.cellText(14)).tells("6", x -> x.cellText(13)).tells("0", x -> x.cellText(15));
        Probe none = Told.numbered("promise 15, none lie there");
        Told.put(none, 2, 2);
        Told.take(none, 2, 2);
        none.act(2, x -> x.squeeze());
        Told.places(none, 2, 0, 6, 0, 0, -1);
        Told.queue(none, 2, "", 6, false, true);
        none.tells("1", x -> x.cellText(9)).tells("2", x -> x.cellText(10));
    }

    private static void emptyAround() {
        Probe p = Told.numbered("promise 16, around and marked");
        Told.put(p, 1, 3);
        p.act(0, x -> x.mark(1)).act(2, x -> x.take(1, 5)).act(2, x -> x.empty(1));
        Told.places(p, 1, 0, 3, 0, 0, -1);
        Told.queue(p, 1, "", 3, false, true);
        p.tells("1", x -> x.cellText(6)).tells("2", x -> x.cellText(7)).tells("3", x -> x.cellText(8));
        p.refused(Probe.UNMARKED, x -> x.back(1)).refused(Probe.EMPTY, x -> x.take(1, 0));
        p.act(1, x -> x.put(1, 3));
        Told.places(p, 1, 1, 3, 0, 1, -1);
        Told.queue(p, 1, "4", 2, false, false);
        p.act(2, x -> x.put(1, 4)).act(3, x -> x.put(1, 0));
        Told.queue(p, 1, "4 5 1", 0, true, false);
    }

    private static Probe acrossTheEnd(String about) {
        Probe p = Told.numbered(about);
        Told.put(p, 0, 5);
        Told.take(p, 0, 3);
        return p.with(x -> x.put(0, 0)).with(x -> x.put(0, 1)).with(x -> x.lay(5, 0, 0));
    }

    private static void lookAcrossTheEnd() {
        Probe p = acrossTheEnd("promise 10, across the end of a ring");
        p.tells("4 5 1 2", x -> x.queueText(0));
        String[] wants = {"4", "5", "1", "2"};
        for (int i = 0; i < 4; i++) {
            int ahead = i;
            p.branch("promise 10, ahead " + ahead).act(1, x -> x.look(0, ahead, 5)).tells(wants[i], x -> x.slotText(5))
                    .tells("4 5 1 2", x -> x.queueText(0)).actWithoutChange(0, x -> x.look(0, ahead, 5));
        }
        p.refused(Probe.BEYOND, x -> x.look(0, 4, 5)).refused(Probe.BEYOND, x -> x.look(0, 5, 5));
    }

    private static void mendAcrossTheEnd() {
        String[] wants = {"0 5 1 2", "4 0 1 2", "4 5 0 2", "4 5 1 0"};
        int[] cells = {4, 5, 1, 2};
        for (int i = 0; i < 4; i++) {
            int ahead = i;
            int cell = cells[i];
            Probe p = acrossTheEnd("promise 11, across the end of a ring, ahead " + ahead);
            p.act(1, x -> x.mend(0, ahead, 5)).tells(wants[i], x -> x.queueText(0)).tells("0", x -> x.cellText(cell));
            p.actWithoutChange(0, x -> x.mend(0, ahead, 5)).refused(Probe.BEYOND, x -> x.mend(0, 4, 5));
            Told.places(p, 0, 2, 3, 3, 5, -1);
        }
    }

    private static void passStopsAtFull() {
        Probe p = Told.numbered("promise 17, the other one gets full");
        Told.put(p, 2, 6);
        p.act(3, x -> x.pass(2, 1)).tells("4 5 6", x -> x.queueText(2)).tells("1 2 3", x -> x.queueText(1));
        p.tells(true, x -> x.isFull(1)).actWithoutChange(0, x -> x.pass(2, 1));
        p.act(3, x -> x.pass(2, 0)).tells("", x -> x.queueText(2)).tells("4 5 6", x -> x.queueText(0));
    }

    private static void passStopsAtEmpty() {
        Probe p = Told.numbered("promise 17, the one gets empty");
        Told.put(p, 1, 2);
        p.act(2, x -> x.pass(1, 0)).tells(true, x -> x.isEmpty(1)).tells("1 2", x -> x.queueText(0));
        p.actWithoutChange(0, x -> x.pass(1, 0)).actWithoutChange(0, x -> x.pass(1, 2));
        Probe exact = Told.numbered("promise 17, both at once");
        Told.put(exact, 1, 3);
        exact.with(x -> x.put(0, 5)).with(x -> x.put(0, 5)).act(3, x -> x.pass(1, 0));
        exact.tells(true, x -> x.isEmpty(1)).tells(true, x -> x.isFull(0)).tells("6 6 1 2 3", x -> x.queueText(0));
    }

    private static void passTakesAndKeeps() {
        Probe p = Told.numbered("promise 17, kept ones of the one");
        Told.put(p, 0, 3);
        p.act(0, x -> x.mark(0)).act(3, x -> x.pass(0, 1)).tells(2, x -> x.room(0));
        Told.places(p, 0, 3, 5, 3, 3, 0);
        p.act(3, x -> x.back(0)).tells("1 2 3", x -> x.queueText(0)).tells("1 2 3", x -> x.queueText(1));
        Probe into = Told.numbered("promise 17, kept ones of the other one");
        Told.put(into, 1, 2);
        into.act(0, x -> x.mark(1)).act(1, x -> x.take(1, 5));
        Told.put(into, 2, 3);
        into.act(1, x -> x.pass(2, 1)).tells("2 1", x -> x.queueText(1)).tells("2 3", x -> x.queueText(2));
        into.act(1, x -> x.back(1)).tells("1 2 1", x -> x.queueText(1));
    }

    private static void passGoesAround() {
        Probe p = Told.numbered("promise 17, around on both sides");
        Told.put(p, 0, 4);
        Told.take(p, 0, 3);
        p.with(x -> x.put(0, 4)).with(x -> x.put(0, 0)).with(x -> x.mark(0)).tells("4 5 1", x -> x.queueText(0));
        Told.put(p, 1, 2);
        Told.take(p, 1, 2);
        p.act(3, x -> x.pass(0, 1));
        Told.places(p, 0, 1, 5, 1, 1, -1);
        Told.places(p, 1, 2, 2, 2, 3, -1);
        p.tells("4 5 1", x -> x.queueText(1)).refused(Probe.UNMARKED, x -> x.back(0)).tells(5, x -> x.room(0));
    }

    private static void queuesDoNotTouch() {
        Probe p = Told.numbered("section 3, the cells of each queue");
        for (int i = 0; i < 3; i++) {
            Told.put(p, i, SIZES[i]);
        }
        String[] cells = {"0", "1", "2", "3", "4", "5", "1", "2", "3", "1", "2", "3", "4", "5", "6", "0"};
        p.tellsEach((x, cell) -> x.cellText(cell), (Object[]) cells);
        for (int i = 0; i < 3; i++) {
            p.refused(Probe.FULL, x -> x.put(0, 5)).refused(Probe.FULL, x -> x.put(1, 5));
        }
        p.refused(Probe.FULL, x -> x.put(2, 5)).tellsEach((x, cell) -> x.cellText(cell), (Object[]) cells);
    }
}
