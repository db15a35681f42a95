/** Promises 8 to 24: the queues. */
public final class QueueTest {
    private static final int MIN = Integer.MIN_VALUE;
    private static final int MAX = Integer.MAX_VALUE;

    public static void main(String[] args) {
        ringFills();
        ringGoesAround();
        ringKeeps();
        ringKeepsAround();
        markGoesWithTheReader();
        lineFillsOnce();
        lookAndMend();
        marks();
        squeeze();
        empty();
        pass();
        poke();
        tellers();
        texts();
        wrongQueues();
        Probe.end();
    }

    private static void ringFills() {
        Probe p = Told.numbered("promise 8, a ring");
        for (int i = 0; i < 5; i++) {
            int k = i;
            p.act(k + 1, x -> x.put(0, k));
        }
        p.refused(Probe.FULL, x -> x.put(0, 5)).tells("1", x -> x.slotText(0));
        Told.queue(p, 0, "1 2 3 4 5", 0, true, false);
        Told.places(p, 0, 0, 0, 0, 5, -1);
        p.tells("0", x -> x.cellText(0)).tells("1", x -> x.cellText(1)).tells("5", x -> x.cellText(5));
        p.tells("0", x -> x.cellText(6));
    }

    private static void ringGoesAround() {
        Probe p = Told.numbered("promises 8 and 9, a ring");
        p.refused(Probe.EMPTY, x -> x.take(1, 0));
        p.with(x -> x.put(1, 0)).with(x -> x.put(1, 1));
        Told.places(p, 1, 2, 3, 0, 2, -1);
        p.act(1, x -> x.take(1, 5)).tells("1", x -> x.slotText(5));
        Told.places(p, 1, 2, 3, 1, 2, -1);
        Told.queue(p, 1, "2", 2, false, false);
        p.act(2, x -> x.put(1, 2));
        Told.places(p, 1, 0, 1, 1, 3, -1);
        Told.queue(p, 1, "2 3", 1, false, false);
        p.act(3, x -> x.put(1, 3));
        Told.places(p, 1, 1, 1, 1, 3, -1);
        Told.queue(p, 1, "2 3 4", 0, true, false);
        p.refused(Probe.FULL, x -> x.put(1, 4));
        p.act(2, x -> x.take(1, 0)).act(1, x -> x.take(1, 0)).tells("3", x -> x.slotText(0));
        Told.places(p, 1, 1, 3, 0, 1, -1);
        Told.queue(p, 1, "4", 2, false, false);
        p.act(0, x -> x.take(1, 0)).tells("4", x -> x.slotText(0));
        Told.queue(p, 1, "", 3, false, true);
        p.refused(Probe.EMPTY, x -> x.take(1, 0));
        p.tells("4", x -> x.cellText(6)).tells("2", x -> x.cellText(7)).tells("3", x -> x.cellText(8));
    }

    private static void ringKeeps() {
        Probe p = Told.numbered("promises 12 to 14, a ring");
        p.with(x -> x.put(1, 0)).with(x -> x.put(1, 1)).with(x -> x.take(1, 5));
        p.act(1, x -> x.mark(1)).act(0, x -> x.take(1, 5));
        Told.places(p, 1, 2, 3, 2, 2, 1);
        Told.queue(p, 1, "", 2, false, true);
        p.act(1, x -> x.put(1, 2)).act(2, x -> x.put(1, 3)).refused(Probe.FULL, x -> x.put(1, 4));
        Told.places(p, 1, 1, 1, 2, 3, 1);
        Told.queue(p, 1, "3 4", 0, true, false);
        p.act(1, x -> x.back(1));
        Told.places(p, 1, 1, 1, 1, 3, 1);
        Told.queue(p, 1, "2 3 4", 0, true, false);
        p.act(0, x -> x.back(1)).act(2, x -> x.take(1, 5)).act(1, x -> x.forget(1));
        Told.places(p, 1, 1, 2, 2, 3, -1);
        Told.queue(p, 1, "3 4", 1, false, false);
        p.refused(Probe.UNMARKED, x -> x.forget(1)).refused(Probe.UNMARKED, x -> x.back(1));
    }

    private static void ringKeepsAround() {
        Probe p = Told.numbered("promise 12, a mark that lets others in");
        for (int i = 0; i < 5; i++) {
            int slot = i;
            p.with(x -> x.put(0, slot));
        }
        p.act(0, x -> x.mark(0)).act(4, x -> x.take(0, 5)).act(3, x -> x.take(0, 5));
        Told.queue(p, 0, "3 4 5", 0, true, false);
        p.act(2, x -> x.mark(0));
        Told.places(p, 0, 0, 2, 2, 5, 2);
        Told.queue(p, 0, "3 4 5", 2, false, false);
        p.act(0, x -> x.back(0)).act(0, x -> x.forget(0)).act(4, x -> x.put(0, 0));
        Told.queue(p, 0, "3 4 5 1", 1, false, false);
    }

    private static void markGoesWithTheReader() {
        Probe p = Told.numbered("promise 9, the reader rewound");
        p.with(x -> x.put(1, 0)).with(x -> x.put(1, 1)).with(x -> x.put(1, 2));
        p.act(0, x -> x.mark(1)).act(2, x -> x.take(1, 5)).act(1, x -> x.take(1, 5));
        p.refused(Probe.FULL, x -> x.put(1, 0));
        p.act(0, x -> x.take(1, 5));
        Told.places(p, 1, 0, 3, 0, 0, -1);
        Told.queue(p, 1, "", 3, false, true);
        p.refused(Probe.UNMARKED, x -> x.back(1)).refused(Probe.UNMARKED, x -> x.forget(1));
    }

    private static void lineFillsOnce() {
        Probe p = Told.numbered("promises 8 and 9, the line");
        for (int i = 0; i < 6; i++) {
            int k = i;
            p.act(k + 1, x -> x.put(2, k));
        }
        p.refused(Probe.FULL, x -> x.put(2, 0));
        Told.places(p, 2, 6, 6, 0, 6, -1);
        for (int i = 0; i < 6; i++) {
            int k = i;
            p.act(5 - k, x -> x.take(2, 0)).tells(Integer.toString(k + 1), x -> x.slotText(0));
            p.refused(Probe.FULL, x -> x.put(2, 0));
        }
        Told.queue(p, 2, "", 0, true, true);
        Told.places(p, 2, 6, 6, 6, 6, -1);
        p.refused(Probe.EMPTY, x -> x.take(2, 0));
        p.act(6, x -> x.mark(2)).act(0, x -> x.back(2));
        p.tells("0", x -> x.cellText(8)).tells("1", x -> x.cellText(9)).tells("6", x -> x.cellText(14));
        p.tells("0", x -> x.cellText(15));
    }

    private static void lookAndMend() {
        Probe p = Told.numbered("promises 10 and 11");
        p.refused(Probe.BEYOND, x -> x.look(0, 0, 0)).refused(Probe.BEYOND, x -> x.mend(0, 0, 0));
        p.with(x -> x.put(1, 0)).with(x -> x.put(1, 1)).with(x -> x.take(1, 5));
        p.with(x -> x.put(1, 2)).with(x -> x.put(1, 3)).with(x -> x.lay(5, -1, -1));
        p.act(4, x -> x.look(1, 0, 5)).tells("2", x -> x.slotText(5));
        p.act(1, x -> x.look(1, 1, 5)).tells("3", x -> x.slotText(5));
        p.act(1, x -> x.look(1, 2, 5)).tells("4", x -> x.slotText(5));
        p.act(0, x -> x.look(1, 2, 5));
        p.refused(Probe.BEYOND, x -> x.look(1, 3, 5)).refused(Probe.BEYOND, x -> x.look(1, 9, 5));
        p.act(1, x -> x.mend(1, 0, 0)).act(1, x -> x.mend(1, 1, 1)).act(1, x -> x.mend(1, 2, 2));
        p.act(0, x -> x.mend(1, 2, 2)).tells("1 2 3", x -> x.queueText(1));
        p.refused(Probe.BEYOND, x -> x.mend(1, 3, 0)).refused(Probe.BEYOND, x -> x.mend(1, 9, 0));
        Told.places(p, 1, 1, 1, 1, 3, -1);
        p.tells("3", x -> x.cellText(6)).tells("1", x -> x.cellText(7)).tells("2", x -> x.cellText(8));
        p.thrown(Probe.ARGUMENT, x -> x.look(1, 10, 5)).thrown(Probe.ARGUMENT, x -> x.look(1, -1, 5));
        p.thrown(Probe.ARGUMENT, x -> x.mend(1, 10, 5)).thrown(Probe.ARGUMENT, x -> x.mend(1, MIN, 5));
        p.thrown(Probe.INDEX, x -> x.look(1, 10, 6)).thrown(Probe.INDEX, x -> x.look(3, 10, 0));
        p.thrown(Probe.INDEX, x -> x.mend(1, 10, -1)).thrown(Probe.INDEX, x -> x.mend(-1, 10, 0));
    }

    private static void marks() {
        Probe p = Told.numbered("promises 12 to 14, the line");
        p.refused(Probe.UNMARKED, x -> x.back(2)).refused(Probe.UNMARKED, x -> x.forget(2));
        p.act(0, x -> x.mark(2)).with(x -> x.put(2, 0)).with(x -> x.put(2, 1)).with(x -> x.put(2, 2));
        p.with(x -> x.take(2, 5)).with(x -> x.take(2, 5));
        Told.places(p, 2, 3, 6, 2, 3, 0);
        p.act(2, x -> x.back(2)).tells("1 2 3", x -> x.queueText(2)).tells(0, x -> x.place(2, 4));
        p.with(x -> x.take(2, 5)).act(1, x -> x.mark(2)).with(x -> x.take(2, 5));
        p.act(1, x -> x.back(2)).with(x -> x.take(2, 5)).act(1, x -> x.forget(2));
        Told.places(p, 2, 3, 6, 2, 3, -1);
        p.tells("3", x -> x.queueText(2)).refused(Probe.UNMARKED, x -> x.back(2));
    }

    private static void squeeze() {
        Probe p = Told.numbered("promise 15");
        p.act(0, x -> x.squeeze()).act(0, x -> x.mark(2)).act(0, x -> x.squeeze());
        p.refused(Probe.UNMARKED, x -> x.back(2));
        for (int i = 0; i < 6; i++) {
            int slot = i;
            p.with(x -> x.put(2, slot));
        }
        p.with(x -> x.take(2, 0)).with(x -> x.mark(2)).with(x -> x.take(2, 0));
        p.act(2, x -> x.squeeze());
        Told.places(p, 2, 4, 6, 0, 4, -1);
        Told.queue(p, 2, "3 4 5 6", 2, false, false);
        p.tells("6", x -> x.cellText(12)).tells("5", x -> x.cellText(13)).tells("6", x -> x.cellText(14));
        p.act(0, x -> x.squeeze()).act(5, x -> x.put(2, 5));
        Told.queue(p, 2, "3 4 5 6 6", 1, false, false);
        p.tells("6", x -> x.cellText(13)).tells("6", x -> x.cellText(14));
    }

    private static void empty() {
        Probe p = Told.numbered("promise 16");
        p.act(0, x -> x.empty(0));
        for (int i = 0; i < 5; i++) {
            int slot = i;
            p.with(x -> x.put(0, slot)).with(x -> x.put(2, slot));
        }
        p.with(x -> x.take(0, 5)).with(x -> x.mark(0)).with(x -> x.take(0, 5)).with(x -> x.put(0, 5));
        p.act(4, x -> x.empty(0));
        Told.places(p, 0, 0, 5, 0, 0, -1);
        Told.queue(p, 0, "", 5, false, true);
        p.tells("2", x -> x.cellText(1)).tells("2", x -> x.cellText(2)).tells("5", x -> x.cellText(5));
        p.refused(Probe.UNMARKED, x -> x.back(0)).act(1, x -> x.put(0, 3));
        Told.places(p, 0, 1, 5, 0, 1, -1);
        p.with(x -> x.take(2, 5)).act(4, x -> x.empty(2));
        Told.places(p, 2, 0, 6, 0, 0, -1);
        p.tells(0, x -> x.lies(1)).act(1, x -> x.put(2, 0)).tells(1, x -> x.lies(0));
        p.act(0, x -> x.mark(1)).act(0, x -> x.empty(1)).refused(Probe.UNMARKED, x -> x.back(1));
    }

    private static void pass() {
        Probe p = Told.numbered("promise 17");
        p.act(0, x -> x.pass(0, 1));
        for (int i = 0; i < 5; i++) {
            int slot = i;
            p.with(x -> x.put(0, slot));
        }
        p.act(3, x -> x.pass(0, 1)).act(0, x -> x.pass(0, 1));
        p.tells("4 5", x -> x.queueText(0)).tells("1 2 3", x -> x.queueText(1));
        p.act(2, x -> x.pass(0, 2)).act(3, x -> x.pass(1, 2)).act(0, x -> x.pass(1, 2));
        p.tells("4 5 1 2 3", x -> x.queueText(2)).tells("", x -> x.queueText(0)).tells("", x -> x.queueText(1));
        p.with(x -> x.mark(2)).act(5, x -> x.pass(2, 0)).tells("4 5 1 2 3", x -> x.queueText(0));
        p.act(5, x -> x.back(2)).act(3, x -> x.pass(2, 1)).tells("2 3", x -> x.queueText(2));
        p.thrown(Probe.ARGUMENT, x -> x.pass(0, 0)).thrown(Probe.ARGUMENT, x -> x.pass(2, 2));
        p.thrown(Probe.INDEX, x -> x.pass(3, 3)).thrown(Probe.INDEX, x -> x.pass(-1, -1));
        p.thrown(Probe.INDEX, x -> x.pass(0, 3)).thrown(Probe.INDEX, x -> x.pass(0, MIN));
    }

    private static void poke() {
        Probe p = Told.numbered("promise 18");
        p.with(x -> x.put(0, 0)).with(x -> x.put(0, 1)).with(x -> x.take(0, 5));
        for (int i = 0; i < 12; i++) {
            int k = i;
            p.refused(Probe.SEALED, x -> x.poke(k / 4, k % 4));
        }
        p.thrown(Probe.ARGUMENT, x -> x.poke(0, 4)).thrown(Probe.ARGUMENT, x -> x.poke(0, -1));
        p.thrown(Probe.INDEX, x -> x.poke(3, 4)).thrown(Probe.INDEX, x -> x.poke(-1, 0));
    }

    private static void tellers() {
        Probe p = Told.numbered("promises 19 to 23");
        p.with(x -> x.put(2, 0)).with(x -> x.put(2, 1)).with(x -> x.take(2, 5));
        Told.places(p, 2, 2, 6, 1, 2, -1, 6, 9);
        Told.queue(p, 2, "2", 4, false, false);
        Told.places(p, 0, 0, 5, 0, 0, -1, 5, 1);
        Told.places(p, 1, 0, 3, 0, 0, -1, 3, 6);
        p.thrown(Probe.ARGUMENT, x -> x.place(0, 7)).thrown(Probe.ARGUMENT, x -> x.place(0, -1));
        p.thrown(Probe.INDEX, x -> x.place(3, 7)).thrown(Probe.INDEX, x -> x.place(-1, 0));
    }

    private static void texts() {
        new Probe("promise 24")
                .tells("", x -> x.queueText(0))
                .with(x -> x.lay(0, MIN, 0)).with(x -> x.lay(1, MAX, -1)).with(x -> x.lay(2, -1, -1))
                .with(x -> x.put(0, 0)).with(x -> x.put(0, 1)).with(x -> x.put(0, 2)).with(x -> x.put(0, 3))
                .tells("-9223372036854775808 9223372036854775807 -1 0", x -> x.queueText(0));
    }

    private static void wrongQueues() {
        Probe p = new Probe("a queue that is not there");
        for (int wrong : new int[] {-1, 3, MIN, MAX}) {
            p.thrown(Probe.INDEX, x -> x.put(wrong, 0)).thrown(Probe.INDEX, x -> x.put(0, wrong * 2 + 9));
            p.thrown(Probe.INDEX, x -> x.take(wrong, 0)).thrown(Probe.INDEX, x -> x.mark(wrong));
            p.thrown(Probe.INDEX, x -> x.back(wrong)).thrown(Probe.INDEX, x -> x.forget(wrong));
            p.thrown(Probe.INDEX, x -> x.empty(wrong)).thrown(Probe.INDEX, x -> x.lies(wrong));
            p.thrown(Probe.INDEX, x -> x.room(wrong)).thrown(Probe.INDEX, x -> x.isEmpty(wrong));
            p.thrown(Probe.INDEX, x -> x.isFull(wrong)).thrown(Probe.INDEX, x -> x.queueText(wrong));
        }
        p.thrown(Probe.INDEX, x -> x.put(0, 6)).thrown(Probe.INDEX, x -> x.put(0, -1));
        p.thrown(Probe.INDEX, x -> x.take(0, 6)).thrown(Probe.INDEX, x -> x.take(0, -1));
        p.thrown(Probe.INDEX, x -> x.look(0, 0, 6)).thrown(Probe.INDEX, x -> x.mend(0, 0, -1));
    }
}
