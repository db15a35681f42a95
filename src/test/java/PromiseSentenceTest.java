import java.util.Map;
import java.util.TreeMap;

/**
 * The promises, sentence by sentence: each test is named by the words that it would fail without, and no sentence is
 * left without a test. What a promise throws is ArgumentEdgeTest's, what promise 50 asks is SoundTest's.
 */
public final class PromiseSentenceTest {
    private static final int MIN = Integer.MIN_VALUE;
    private static final int MAX = Integer.MAX_VALUE;
    private static final int SOUND = 50;
    private static final Map<Integer, Sentences> DOC = new TreeMap<>();

    public static void main(String[] args) throws Exception {
        for (Doc.Promise promise : Doc.promises()) {
            DOC.put(promise.number(), promise.sentences());
        }
        newObject();
        laid();
        toldOfSlots();
        putAndTake();
        lookAndMend();
        marks();
        squeeze();
        emptyAndPass();
        poke();
        toldOfQueues();
        pour();
        draw();
        turn();
        pipeMarks();
        toldOfThePipe();
        lensSet();
        lensTurn();
        lensMake();
        lensCut();
        toldOfLenses();
        longs();
        shorts();
        writes();
        whole();
        DOC.remove(SOUND);
        DOC.values().forEach(Sentences::allSaid);
        Probe.end();
    }

    private static String says(int promise, String quote) {
        return DOC.get(promise).says(quote);
    }

    private static void newObject() {
        Probe p = new Probe(says(1, "Creates it as told, all cells 0."));
        p.tellsEach((x, slot) -> x.slotText(slot), "0", "0", "0", "0", "0", "0");
        p.tellsEach((x, cell) -> x.cellText(cell), "0", "0", "0", "0", "0", "0", "0", "0", "0", "0", "0", "0", "0", "0",
                "0", "0");
        Told.queue(p, 0, "", 5, false, true);
        Told.queue(p, 1, "", 3, false, true);
        Told.queue(p, 2, "", 6, false, true);
        Told.pipe(p, 0, 10, 10, 10, -1, 0, 1, 0);
        Told.lens(p, 0, 1, 15, 16, 14, -1, 1, 0, 0, -1);
        Told.lens(p, 1, 0, 24, 24, 24, -1, 0, 1, 0, 11);
        p.tellsEach((x, what) -> x.house(what), 0, 0, 0, 0, 0, 0, 0, 0);
    }

    private static void laid() {
        Probe lay = new Probe(says(2, "ACT. A NUMBER is laid into a slot.")).act(2, x -> x.lay(5, 1, 2));
        lay.tells("4294967298", x -> x.slotText(5)).tells("0", x -> x.slotText(4)).act(2, x -> x.lay(5, 0, 0));
        lay.tells("0", x -> x.slotText(5));
        Probe others = new Probe(says(2, "Returns how many of the four FOURTHS are others then."));
        others.act(0, x -> x.lay(0, 0, 0)).act(1, x -> x.lay(0, 0, 1)).act(2, x -> x.lay(0, 65536, 0));
        others.act(4, x -> x.lay(0, -1, -1)).act(0, x -> x.lay(0, -1, -1)).act(3, x -> x.lay(0, 0, 65535));
        Probe fourth = new Probe(says(3, "ACT. One FOURTH of a slot is laid.")).act(1, x -> x.layFourth(0, 2, 7));
        fourth.tellsEach((x, k) -> x.fourth(0, k), 0, 0, 7, 0).tells("458752", x -> x.slotText(0));
        Probe other = new Probe(says(3, "Returns 1 if it is another one then, otherwise 0."));
        other.act(1, x -> x.layFourth(0, 0, -1)).act(0, x -> x.layFourth(0, 0, -1)).act(1, x -> x.layFourth(0, 0, 0));
    }

    private static void toldOfSlots() {
        Probe upper = new Probe(says(4, "Returns UPPER of the slot's NUMBER.")).with(x -> x.lay(1, MIN, MAX));
        upper.tells(MIN, x -> x.upper(1)).tells(0, x -> x.upper(0));
        Probe lower = new Probe(says(5, "Returns LOWER of the slot's NUMBER.")).with(x -> x.lay(1, MIN, MAX));
        lower.tells(MAX, x -> x.lower(1)).tells(0, x -> x.lower(2));
        Probe fourth = new Probe(says(6, "Returns that FOURTH of the slot.")).with(x -> x.lay(1, 65534, -65535));
        fourth.tellsEach((x, k) -> x.fourth(1, k), 0, -2, -1, 1);
        Probe text = new Probe(says(7, "Returns the VALUE of the slot's NUMBER.")).with(x -> x.lay(1, -1, 0));
        text.tells("-4294967296", x -> x.slotText(1)).tells("0", x -> x.slotText(0));
    }

    private static void putAndTake() {
        Probe put = Told.numbered(says(8, "ACT. A slot's NUMBER comes in (the slot keeps it)."));
        put.act(1, x -> x.put(1, 4)).tells("5", x -> x.queueText(1)).tells("5", x -> x.slotText(4));
        Probe full = Told.numbered(says(8, "Returns how many LIE there then; FULL if the QUEUE is full."));
        full.act(1, x -> x.put(1, 0)).act(2, x -> x.put(1, 1)).act(3, x -> x.put(1, 2));
        full.refused(Probe.FULL, x -> x.put(1, 3)).with(x -> x.take(1, 5)).act(3, x -> x.put(1, 3));
        Probe take = Told.put(Told.numbered(says(9, "ACT. The first one goes out, into a slot.")), 1, 2);
        take.act(1, x -> x.take(1, 4)).tells("1", x -> x.slotText(4)).tells("2", x -> x.queueText(1));
        Probe empty = Told.numbered(says(9, "Returns how many LIE there then; EMPTY if the QUEUE is empty."));
        Told.put(empty.refused(Probe.EMPTY, x -> x.take(1, 4)), 1, 3).act(2, x -> x.take(1, 4));
        empty.act(1, x -> x.take(1, 4)).act(0, x -> x.take(1, 4)).refused(Probe.EMPTY, x -> x.take(1, 4));
    }

    private static void lookAndMend() {
        Probe look = Told.numbered(says(10, "ACT. One that LIES there comes into a slot, and LIES there on."));
        Told.put(look, 1, 3).act(1, x -> x.look(1, 2, 4)).tells("3", x -> x.slotText(4));
        look.tells("1 2 3", x -> x.queueText(1));
        Probe looked = Told.numbered(says(10, "Returns how many of the four FOURTHS are others then; BEYOND if so "
                + "many, or fewer, LIE there."));
        looked.with(x -> x.lay(5, -1, -1)).refused(Probe.BEYOND, x -> x.look(1, 0, 5)).with(x -> x.put(1, 0));
        looked.act(4, x -> x.look(1, 0, 5)).act(0, x -> x.look(1, 0, 5)).refused(Probe.BEYOND, x -> x.look(1, 1, 5));
        looked.refused(Probe.BEYOND, x -> x.look(1, 9, 5));
        Probe mend = Told.numbered(says(11, "ACT. In place of one that LIES there a slot's NUMBER does."));
        Told.put(mend, 1, 3).act(1, x -> x.mend(1, 1, 5)).tells("1 6 3", x -> x.queueText(1));
        mend.tells("6", x -> x.slotText(5)).tells("6", x -> x.cellText(7));
        Probe mended = Told.numbered(says(11, "Returns 1 if it is another one then, otherwise 0; BEYOND if so many, or "
                + "fewer, LIE there."));
        mended.refused(Probe.BEYOND, x -> x.mend(1, 0, 5)).with(x -> x.put(1, 0)).act(1, x -> x.mend(1, 0, 5));
        mended.act(0, x -> x.mend(1, 0, 5)).refused(Probe.BEYOND, x -> x.mend(1, 1, 5));
        mended.refused(Probe.BEYOND, x -> x.mend(1, 9, 5));
    }

    private static void marks() {
        Probe mark = Told.numbered(says(12, "ACT. READER is MARKED (those that were KEPT are not any more)."));
        Told.put(mark, 1, 3).act(0, x -> x.mark(1)).with(x -> x.take(1, 5)).refused(Probe.FULL, x -> x.put(1, 0));
        mark.act(1, x -> x.mark(1)).act(3, x -> x.put(1, 3)).act(0, x -> x.back(1)).tells("2 3 4", x -> x.queueText(1));
        Probe marked = Told.numbered(says(12, "Returns READER's MARK.")).act(0, x -> x.mark(2));
        Told.take(Told.put(marked, 2, 6), 2, 6).act(6, x -> x.mark(2)).tells(6, x -> x.place(2, 4));
        Probe back = Told.numbered(says(13, "ACT. READER is SET BACK: the KEPT ones LIE there again."));
        Told.take(Told.put(back, 0, 4).with(x -> x.mark(0)), 0, 2).act(2, x -> x.back(0));
        back.tells("1 2 3 4", x -> x.queueText(0)).tells(0, x -> x.place(0, 2)).tells(0, x -> x.place(0, 4));
        Probe kept = Told.numbered(says(13, "Returns how many these are; UNMARKED if READER has no MARK."));
        Told.put(kept.refused(Probe.UNMARKED, x -> x.back(0)), 0, 4).with(x -> x.mark(0)).act(0, x -> x.back(0));
        Told.take(kept, 0, 3).act(3, x -> x.back(0)).act(0, x -> x.back(0));
        Probe forget = Told.numbered(says(14, "ACT. READER loses its MARK; its PLACE stays."));
        Told.take(Told.put(forget, 0, 4).with(x -> x.mark(0)), 0, 2).act(2, x -> x.forget(0));
        Told.places(forget, 0, 4, 5, 2, 4, -1);
        Probe forgotten = Told.numbered(says(14, "Returns how many were KEPT; UNMARKED if READER has no MARK."));
        Told.put(forgotten.refused(Probe.UNMARKED, x -> x.forget(0)), 0, 4).with(x -> x.mark(0));
        Told.take(forgotten, 0, 3).act(3, x -> x.forget(0)).refused(Probe.UNMARKED, x -> x.forget(0));
        forgotten.with(x -> x.mark(0)).act(0, x -> x.forget(0));
    }

    private static void squeeze() {
        Probe p = Told.numbered(says(15, "ACT. Of the LINE: those that LIE there come to its cells 0 on as a COMPACTED "
                + "WINDOW does it (the cells behind keep what they have); WRITER's PLACE and READER's LIMIT are how "
                + "many LIE there, READER's PLACE is 0, its MARK is gone. Returns what READER's PLACE was."));
        Told.take(Told.put(p, 2, 5), 2, 1).with(x -> x.mark(2)).with(x -> x.take(2, 5)).act(2, x -> x.squeeze());
        Told.places(p, 2, 3, 6, 0, 3, -1, 6, 9);
        Told.queue(p, 2, "3 4 5", 3, false, false);
        p.tells("4", x -> x.cellText(12)).tells("5", x -> x.cellText(13)).tells("0", x -> x.cellText(14));
        p.refused(Probe.UNMARKED, x -> x.back(2)).actWithoutChange(0, x -> x.squeeze());
    }

    private static void emptyAndPass() {
        Probe empty = Told.numbered(says(16, "ACT. It is emptied (its cells keep what they have). Returns how many LAY "
                + "there."));
        Told.put(empty.act(0, x -> x.empty(1)), 1, 3).with(x -> x.mark(1)).with(x -> x.take(1, 5));
        empty.act(2, x -> x.empty(1)).tells("1", x -> x.cellText(6)).tells("3", x -> x.cellText(8));
        Told.places(empty, 1, 0, 3, 0, 0, -1);
        Told.queue(empty, 1, "", 3, false, true);
        String pass = says(17, "ACT. As long as the one is not empty and the other one is not full: the first one "
                + "goes out of the one and comes into the other. Returns how many did.");
        Probe full = Told.put(Told.numbered(pass), 2, 5).act(3, x -> x.pass(2, 1));
        full.tells("4 5", x -> x.queueText(2)).tells("1 2 3", x -> x.queueText(1)).act(0, x -> x.pass(2, 1));
        Probe none = Told.put(Told.numbered(pass), 2, 2).act(2, x -> x.pass(2, 1)).act(0, x -> x.pass(2, 0));
        Told.queue(none.tells("1 2", x -> x.queueText(1)), 2, "", 4, false, true);
    }

    private static void poke() {
        Probe p = Told.numbered(says(18, "ACT. READER is asked for what a SEALED one never does."));
        says(18, "`how`: 0 it is to write a 0 NEXT, 1 to be COMPACTED, 2 to give out its cells, 3 to tell FIRST");
        says(18, "Returns SEALED, always.");
        for (int i = 0; i < 12; i++) {
            int queue = i % 3;
            int how = i / 3;
            p.refused(Probe.SEALED, x -> x.poke(queue, how)).with(x -> x.put(queue, 0));
        }
        p.refused(Probe.SEALED, x -> x.poke(1, 0)).refused(Probe.SEALED, x -> x.poke(1, 1));
        p.thrown(Probe.ARGUMENT, x -> x.poke(0, 4)).thrown(Probe.ARGUMENT, x -> x.poke(0, -1));
    }

    private static void toldOfQueues() {
        Probe lies = Told.put(Told.numbered(says(19, "Returns how many LIE there.")), 1, 2).tells(2, x -> x.lies(1));
        lies.with(x -> x.mark(1)).with(x -> x.take(1, 5)).tells(1, x -> x.lies(1)).with(x -> x.put(1, 0));
        lies.tells(2, x -> x.lies(1)).tells(0, x -> x.lies(0));
        Probe room = Told.put(Told.numbered(says(20, "Returns its ROOM.")), 1, 2).tells(1, x -> x.room(1));
        room.with(x -> x.mark(1)).with(x -> x.take(1, 5)).tells(1, x -> x.room(1)).with(x -> x.put(1, 0));
        room.tells(0, x -> x.room(1)).tells(5, x -> x.room(0)).tells(6, x -> x.room(2));
        Probe empty = Told.numbered(says(21, "Returns whether it is empty.")).tells(true, x -> x.isEmpty(2));
        empty.with(x -> x.put(2, 0)).tells(false, x -> x.isEmpty(2)).with(x -> x.take(2, 0));
        empty.tells(true, x -> x.isEmpty(2));
        Probe full = Told.put(Told.numbered(says(22, "Returns whether it is full.")), 1, 2)
                .tells(false, x -> x.isFull(1));
        full.with(x -> x.put(1, 0)).tells(true, x -> x.isFull(1)).with(x -> x.take(1, 0))
                .tells(false, x -> x.isFull(1));
        Probe place = Told.numbered(says(23, "`what`: 0 WRITER's PLACE, 1 WRITER's LIMIT, 2 READER's PLACE, 3 READER's "
                + "LIMIT, 4 READER's MARK, 5 SIZE, 6 FIRST Returns that."));
        Told.take(Told.put(place, 0, 5), 0, 2).with(x -> x.mark(0)).with(x -> x.take(0, 5)).with(x -> x.put(0, 0));
        Told.places(place, 0, 1, 2, 3, 5, 2, 5, 1);
        Told.places(place, 1, 0, 3, 0, 0, -1, 3, 6);
        Probe text = new Probe(says(24, "Returns the VALUEs of those that LIE there, in their order, with \" \" "
                + "between."));
        text.tells("", x -> x.queueText(1)).with(x -> x.lay(0, MIN, 0)).with(x -> x.put(1, 0));
        text.tells("-9223372036854775808", x -> x.queueText(1)).with(x -> x.put(1, 1)).with(x -> x.lay(0, -1, -1));
        text.with(x -> x.put(1, 0)).tells("-9223372036854775808 0 -1", x -> x.queueText(1)).with(x -> x.take(1, 5));
        text.with(x -> x.put(1, 2)).tells("0 -1 0", x -> x.queueText(1));
    }

    private static void pour() {
        Probe pour = Told.fourths(says(25, "ACT. The PIPE writes a FOURTH of a slot NEXT."));
        pour.act(1, x -> x.pour(0, 3)).act(2, x -> x.pour(1, 0)).tells("4 -1", x -> x.pipeText());
        Probe full = Told.fourths(says(25, "Returns the PIPE's PLACE then; FULL if its RESTS is 0."));
        for (int i = 1; i <= 10; i++) {
            full.act(i, x -> x.pour(0, 0));
        }
        full.refused(Probe.FULL, x -> x.pour(0, 0));
        Probe all = Told.fourths(says(26, "ACT. The PIPE writes the FOURTHS of a slot NEXT, from one on to the FOURTH "
                + "3, in this order, as long as its RESTS is not 0. Returns how many."));
        all.act(1, x -> x.pourAll(0, 3)).act(2, x -> x.pourAll(1, 2)).act(3, x -> x.pourAll(0, 1));
        all.act(4, x -> x.pourAll(1, 0)).tells("4 -3 -4 2 3 4 -1 -2 -3 -4", x -> x.pipeText());
        all.act(0, x -> x.pourAll(0, 0)).act(0, x -> x.pourAll(0, 3));
        Probe some = Told.fourths("promise 26, as long as its RESTS is not 0").with(x -> x.pourAll(0, 0));
        some.with(x -> x.pourAll(0, 0)).act(2, x -> x.pourAll(1, 1)).tells("1 2 3 4 1 2 3 4 -2 -3", x -> x.pipeText());
    }

    private static void draw() {
        Probe draw = Told.fourths(says(27, "ACT. The PIPE reads NEXT. Returns the FOURTH; EMPTY if RESTS is 0."));
        draw.with(x -> x.pour(1, 3)).with(x -> x.pour(0, 1)).with(x -> x.turn()).act(-4, x -> x.draw());
        draw.tells(1, x -> x.pipe(0)).act(2, x -> x.draw()).refused(Probe.EMPTY, x -> x.draw());
        Probe all = Told.fourths(says(28, "ACT. The PIPE reads NEXT four times; these are the FOURTHS 0 to 3 of a slot "
                + "then."));
        all.with(x -> x.pour(1, 3)).with(x -> x.pourAll(0, 0)).with(x -> x.turn()).act(4, x -> x.drawAll(5));
        all.tellsEach((x, k) -> x.fourth(5, k), -4, 1, 2, 3).tells("4", x -> x.pipeText()).tells(4, x -> x.pipe(0));
        Probe others = Told.fourths(says(28, "Returns how many of the four FOURTHS are others then; EMPTY if RESTS is "
                + "below 4."));
        others.with(x -> x.pourAll(0, 0)).with(x -> x.pourAll(0, 0)).with(x -> x.turn()).act(0, x -> x.drawAll(0));
        others.with(x -> x.lay(5, 2, 3)).act(3, x -> x.drawAll(5)).refused(Probe.EMPTY, x -> x.drawAll(5));
        others.with(x -> x.again()).with(x -> x.draw()).act(4, x -> x.drawAll(1))
                .refused(Probe.EMPTY, x -> x.drawAll(1));
        others.tells(3, x -> x.pipe(2)).act(2, x -> x.draw());
    }

    private static void turn() {
        Probe turn = Told.fourths(says(29, "ACT. If the PIPE is FILLING, it is FLIPPED, and is DRAINING then; if it is "
                + "DRAINING, it is COMPACTED, and is FILLING then. Returns its RESTS then."));
        turn.with(x -> x.pourAll(0, 0)).with(x -> x.pipeMark()).with(x -> x.pour(1, 0)).act(5, x -> x.turn());
        Told.pipe(turn, 0, 5, 5, 10, -1, 1, 1, 5);
        turn.with(x -> x.draw()).with(x -> x.draw()).with(x -> x.pipeMark()).act(7, x -> x.turn());
        Told.pipe(turn, 3, 10, 7, 10, -1, 0, 1, 3);
        turn.tells("3 4 -1", x -> x.pipeText()).act(3, x -> x.turn()).tells("3 4 -1", x -> x.pipeText());
        Probe again = Told.fourths(says(30, "ACT. The PIPE is REWOUND (FILLING: what lay in it is taken back; "
                + "DRAINING: all since the last turn can be drawn again). Returns its RESTS then."));
        again.with(x -> x.pourAll(1, 0)).with(x -> x.pipeMark()).act(10, x -> x.again());
        Told.pipe(again.tells("", x -> x.pipeText()), 0, 10, 10, 10, -1, 0, 1, 0);
        again.with(x -> x.pourAll(0, 2)).with(x -> x.turn()).with(x -> x.draw()).with(x -> x.pipeMark());
        Told.pipe(again.with(x -> x.draw()).act(2, x -> x.again()), 0, 2, 2, 10, -1, 1, 1, 2);
        again.act(3, x -> x.draw()).act(4, x -> x.draw()).refused(Probe.EMPTY, x -> x.draw());
        again.with(x -> x.again()).with(x -> x.pipeMark()).act(2, x -> x.again()).tells(-1, x -> x.pipe(4));
    }

    private static void pipeMarks() {
        Probe mark = Told.fourths(says(31, "ACT. The PIPE is MARKED. Returns its MARK.")).act(0, x -> x.pipeMark());
        mark.with(x -> x.pourAll(0, 0)).act(4, x -> x.pipeMark()).tells(4, x -> x.pipe(4)).with(x -> x.turn());
        mark.with(x -> x.draw()).act(1, x -> x.pipeMark()).tells(1, x -> x.pipe(4));
        Probe back = Told.fourths(says(32, "ACT. The PIPE is SET BACK (FILLING: what was poured since is taken back; "
                + "DRAINING: what was drawn since can be drawn again)."));
        back.with(x -> x.pourAll(0, 0)).with(x -> x.pipeMark()).with(x -> x.pourAll(1, 0)).act(4, x -> x.pipeBack());
        back.tells("1 2 3 4", x -> x.pipeText()).with(x -> x.turn()).with(x -> x.draw()).with(x -> x.pipeMark());
        back.with(x -> x.draw()).with(x -> x.draw()).act(1, x -> x.pipeBack()).tells("2 3 4", x -> x.pipeText());
        back.act(2, x -> x.draw());
        Probe unmarked = Told.fourths(says(32, "Returns its PLACE then; UNMARKED if it has no MARK."));
        unmarked.refused(Probe.UNMARKED, x -> x.pipeBack()).with(x -> x.pipeMark()).act(0, x -> x.pipeBack());
        unmarked.with(x -> x.pour(0, 0)).with(x -> x.pipeMark()).act(1, x -> x.pipeBack()).with(x -> x.turn());
        unmarked.refused(Probe.UNMARKED, x -> x.pipeBack());
    }

    private static void toldOfThePipe() {
        Probe pipe = Told.fourths(says(33, "`what`: 0 PLACE, 1 LIMIT, 2 RESTS, 3 SIZE, 4 MARK, 5 whether it is "
                + "DRAINING (1 or 0), 6 FIRST, 7 how many FOURTHS lie in it Returns that."));
        pipe.with(x -> x.pourAll(0, 2)).with(x -> x.pipeMark()).with(x -> x.pourAll(0, 0)).with(x -> x.pour(0, 0));
        Told.pipe(pipe, 7, 10, 3, 10, 2, 0, 1, 7);
        pipe.with(x -> x.turn()).with(x -> x.draw()).with(x -> x.pipeMark()).with(x -> x.draw());
        Told.pipe(pipe, 2, 7, 5, 10, 1, 1, 1, 5);
        Probe text = new Probe(says(34, "Returns the FOURTHS that lie in it, in their order, with \" \" between (each "
                + "in decimal digits, with \"-\" ahead if it is below 0)."));
        text.tells("", x -> x.pipeText()).with(x -> x.lay(0, MIN, 65535)).with(x -> x.pour(0, 0));
        text.tells("-32768", x -> x.pipeText()).with(x -> x.lay(0, 32767, 65535)).with(x -> x.pourAll(0, 0));
        text.tells("-32768 0 32767 0 -1", x -> x.pipeText()).with(x -> x.turn()).with(x -> x.draw());
        text.tells("0 32767 0 -1", x -> x.pipeText());
    }

    private static void lensSet() {
        String placed = says(35, "ACT. PLACE of a LENS is set. Returns its RESTS then; UNFIT if at is not 0 to LIMIT.");
        String limited = says(36, "ACT. LIMIT of a LENS is set. Returns its RESTS then; UNFIT if at is not 0 to SIZE.");
        for (int i = 0; i < 2; i++) {
            int lens = i;
            int size = i == 0 ? 16 : 24;
            Probe place = new Probe(placed).with(x -> x.lensLimit(lens, 9)).act(0, x -> x.lensPlace(lens, 9));
            place.tells(9, x -> x.lens(lens, 0)).act(5, x -> x.lensPlace(lens, 4)).act(9, x -> x.lensPlace(lens, 0));
            place.refused(Probe.UNFIT, x -> x.lensPlace(lens, 10)).refused(Probe.UNFIT, x -> x.lensPlace(lens, -1));
            place.refused(Probe.UNFIT, x -> x.lensPlace(lens, MIN)).refused(Probe.UNFIT, x -> x.lensPlace(lens, MAX));
            Probe limit = new Probe(limited).with(x -> x.lensPlace(lens, 3))
                    .act(size - 3, x -> x.lensLimit(lens, size));
            limit.act(2, x -> x.lensLimit(lens, 5)).tells(5, x -> x.lens(lens, 1)).act(0, x -> x.lensLimit(lens, 0));
            limit.tells(0, x -> x.lens(lens, 0)).refused(Probe.UNFIT, x -> x.lensLimit(lens, size + 1));
            limit.refused(Probe.UNFIT, x -> x.lensLimit(lens, -1)).refused(Probe.UNFIT, x -> x.lensLimit(lens, MIN));
            limit.refused(Probe.UNFIT, x -> x.lensLimit(lens, MAX)).act(size, x -> x.lensLimit(lens, size));
        }
    }

    /** PLACE 9, LIMIT 12, MARK 6; the fourths of slot 2 are 1 to 4. */
    private static Probe marked(String about, int lens) {
        return new Probe(about).with(x -> x.lay(2, 65538, 196612)).with(x -> x.lensLimit(lens, 12))
                .with(x -> x.lensPlace(lens, 6)).with(x -> x.lensTurn(lens, 3)).with(x -> x.lensPlace(lens, 9));
    }

    private static void lensTurn() {
        String done = says(37, "ACT. That is done with a LENS.");
        says(37, "`how`: 0 it is CLEARED, 1 FLIPPED, 2 REWOUND, 3 MARKED, 4 SET BACK, 5 COMPACTED");
        String refused = says(37, "Returns its PLACE then; UNMARKED if it is to be SET BACK and has no MARK; SEALED "
                + "if it is to be COMPACTED and is SEALED.");
        for (int i = 0; i < 2; i++) {
            int lens = i;
            int size = i == 0 ? 16 : 24;
            Told.lens(marked(done, lens).act(0, x -> x.lensTurn(lens, 0)), lens, 0, size, size, size, -1);
            Told.lens(marked(done, lens).act(0, x -> x.lensTurn(lens, 1)), lens, 0, 9, size, 9, -1);
            Told.lens(marked(done, lens).act(0, x -> x.lensTurn(lens, 2)), lens, 0, 12, size, 12, -1);
            Told.lens(marked(done, lens).act(9, x -> x.lensTurn(lens, 3)), lens, 9, 12, size, 3, 9);
            Told.lens(marked(done, lens).act(6, x -> x.lensTurn(lens, 4)), lens, 6, 12, size, 6, 6);
            Probe none = new Probe(refused).refused(Probe.UNMARKED, x -> x.lensTurn(lens, 4));
            none.with(x -> x.lensMake(lens, 2)).refused(Probe.SEALED, x -> x.lensTurn(lens, 5));
            none.act(1 - lens, x -> x.lensTurn(lens, 3)).act(1 - lens, x -> x.lensTurn(lens, 4));
        }
        Probe compacted = marked(done, 1).act(3, x -> x.lensTurn(1, 5));
        Told.lens(compacted, 1, 3, 24, 24, 21, -1);
        compacted.tellsEach((x, k) -> x.fourth(0, k), 2, 3, 4, 0).tellsEach((x, k) -> x.fourth(2, k), 1, 2, 3, 4);
    }

    private static void lensMake() {
        String made = says(38, "ACT. That is the LENS from then on. `how`: 0 a TWIN of it, 1 a SLICE of it, 2 a "
                + "SEALED TWIN of it, 3 the one that it was at first (section 6) Returns its SIZE then.");
        Told.lens(marked(made, 0).act(16, x -> x.lensMake(0, 0)), 0, 9, 12, 16, 3, 6, 1, 0, 0, -1);
        Told.lens(marked(made, 0).act(3, x -> x.lensMake(0, 1)), 0, 0, 3, 3, 3, -1, 1, 0, 0, -1);
        Told.lens(marked(made, 0).act(16, x -> x.lensMake(0, 2)), 0, 9, 12, 16, 3, 6, 1, 0, 0, -1);
        Told.lens(marked(made, 0).act(16, x -> x.lensMake(0, 3)), 0, 1, 15, 16, 14, -1, 1, 0, 0, -1);
        Told.lens(marked(made, 1).act(24, x -> x.lensMake(1, 0)), 1, 9, 12, 24, 3, 6, 0, 1, 0, 11);
        Probe slice = marked(made, 1).act(3, x -> x.lensMake(1, 1));
        Told.lens(slice, 1, 0, 3, 3, 3, -1, 0, 1, 0, 20);
        slice.act(2, x -> x.nextShort()).act(0, x -> x.lensCut(1, 3, 0)).act(0, x -> x.lensMake(1, 0));
        Told.lens(marked(made, 1).act(24, x -> x.lensMake(1, 2)), 1, 9, 12, 24, 3, 6, 1, 0, 0, -1);
        Told.lens(slice.act(24, x -> x.lensMake(1, 3)), 1, 0, 24, 24, 24, -1, 0, 1, 0, 11);
    }

    private static void lensCut() {
        String cut = says(39, "ACT. A CUT of it is the LENS from then on. Returns its SIZE then; BEYOND if from is "
                + "not 0 to LIMIT, or many is not 0 to LIMIT - from.");
        Told.lens(marked(cut, 0).act(5, x -> x.lensCut(0, 7, 5)), 0, 0, 5, 5, 5, -1, 1, 0, 0, -1);
        Probe p = marked(cut, 1).act(5, x -> x.lensCut(1, 7, 5));
        Told.lens(p, 1, 0, 5, 5, 5, -1, 0, 1, 0, 18);
        p.act(1, x -> x.shortAt(1)).act(4, x -> x.shortAt(4)).act(0, x -> x.lensCut(1, 5, 0));
        for (int i = 0; i < 2; i++) {
            int lens = i;
            Probe edge = marked(cut, i).refused(Probe.BEYOND, x -> x.lensCut(lens, 13, 0));
            edge.refused(Probe.BEYOND, x -> x.lensCut(lens, -1, 1)).refused(Probe.BEYOND, x -> x.lensCut(lens, 0, 13));
            edge.refused(Probe.BEYOND, x -> x.lensCut(lens, 12, 1)).refused(Probe.BEYOND, x -> x.lensCut(lens, 3, -1));
            edge.refused(Probe.BEYOND, x -> x.lensCut(lens, 3, 10)).refused(Probe.BEYOND, x -> x.lensCut(lens, 3, MAX));
            edge.branch(cut).act(0, x -> x.lensCut(lens, 12, 0)).act(0, x -> x.lensCut(lens, 0, 0));
            edge.branch(cut).act(12, x -> x.lensCut(lens, 0, 12)).branch(cut).act(9, x -> x.lensCut(lens, 3, 9));
        }
    }

    private static void toldOfLenses() {
        String told = says(40, "`what`: 0 PLACE, 1 LIMIT, 2 SIZE, 3 RESTS, 4 MARK, 5 whether it is SEALED (1 or 0), 6 "
                + "whether its cells are given out (1 or 0: 1 just if it is not SEALED), 7 whether its cells lie "
                + "beyond the program (1 or 0: always 0), 8 FIRST, but -1 if it is SEALED Returns that.");
        Told.lens(marked(told, 0), 0, 9, 12, 16, 3, 6, 1, 0, 0, -1);
        Told.lens(marked(told, 1), 1, 9, 12, 24, 3, 6, 0, 1, 0, 11);
        Told.lens(marked(told, 1).with(x -> x.lensCut(1, 4, 6)), 1, 0, 6, 6, 6, -1, 0, 1, 0, 15);
        Told.lens(marked(told, 1).with(x -> x.lensMake(1, 2)), 1, 9, 12, 24, 3, 6, 1, 0, 0, -1);
    }

    private static void longs() {
        Probe next = Told.put(Told.numbered(says(41, "ACT. LENS 0 reads NEXT; that NUMBER comes into a slot.")), 0, 2);
        next.act(1, x -> x.nextLong(5)).tells("1", x -> x.slotText(5)).tells(2, x -> x.lens(0, 0));
        next.act(1, x -> x.nextLong(5)).tells("2", x -> x.slotText(5)).tells(3, x -> x.lens(0, 0));
        Probe others = Told.put(Told.numbered(says(41, "Returns how many of the four FOURTHS are others then; EMPTY if "
                + "RESTS is 0.")), 0, 2);
        others.with(x -> x.lay(5, -1, -1)).with(x -> x.lensLimit(0, 3)).act(4, x -> x.nextLong(5));
        others.act(0, x -> x.nextLong(1)).refused(Probe.EMPTY, x -> x.nextLong(1));
        Probe at = Told.numbered(says(42, "ACT. What a cell of LENS 0 has comes into a slot; PLACE stays."));
        Told.put(at, 2, 6);
        at.act(1, x -> x.longAt(10, 5)).tells("2", x -> x.slotText(5)).tells(1, x -> x.lens(0, 0));
        at.with(x -> x.lensCut(0, 9, 6)).act(1, x -> x.longAt(5, 0)).tells("6", x -> x.slotText(0));
        Probe beyond = Told.numbered(says(42, "Returns how many of the four FOURTHS are others then; BEYOND if at is "
                + "not 0 to LIMIT - 1."));
        beyond.with(x -> x.lay(5, -1, -1)).act(4, x -> x.longAt(14, 5)).act(0, x -> x.longAt(0, 5));
        beyond.refused(Probe.BEYOND, x -> x.longAt(15, 5)).refused(Probe.BEYOND, x -> x.longAt(-1, 5));
        beyond.refused(Probe.BEYOND, x -> x.longAt(MIN, 5)).refused(Probe.BEYOND, x -> x.longAt(MAX, 5));
    }

    private static void shorts() {
        Probe next = Told.fourths(says(43, "ACT. LENS 1 reads NEXT. Returns the FOURTH; EMPTY if RESTS is 0."));
        next.with(x -> x.lensPlace(1, 3)).with(x -> x.lensLimit(1, 5)).act(4, x -> x.nextShort());
        next.act(-1, x -> x.nextShort()).tells(5, x -> x.lens(1, 0)).refused(Probe.EMPTY, x -> x.nextShort());
        Probe at = Told.fourths(says(44, "ACT. Reads a cell of LENS 1; PLACE stays. Returns the FOURTH there; BEYOND "
                + "if at is not 0 to LIMIT - 1."));
        at.with(x -> x.lensPlace(1, 3)).with(x -> x.lensLimit(1, 5)).actWithoutChange(1, x -> x.shortAt(0));
        at.actWithoutChange(-1, x -> x.shortAt(4)).refused(Probe.BEYOND, x -> x.shortAt(5));
        at.refused(Probe.BEYOND, x -> x.shortAt(-1)).refused(Probe.BEYOND, x -> x.shortAt(MIN));
        at.refused(Probe.BEYOND, x -> x.shortAt(MAX));
    }

    private static void writes() {
        Probe next = Told.fourths(says(45, "ACT. LENS 1 writes NEXT.")).with(x -> x.lensPlace(1, 1));
        next.act(1, x -> x.putNext(-32768)).tells(-32768, x -> x.fourth(0, 1)).tells(2, x -> x.lens(1, 0));
        Probe refused = Told.fourths(says(45, "Returns 1 if another FOURTH was there, otherwise 0; SEALED if it is "
                + "SEALED; otherwise FULL if RESTS is 0."));
        refused.with(x -> x.lensLimit(1, 2)).act(0, x -> x.putNext(1)).act(1, x -> x.putNext(1));
        refused.refused(Probe.FULL, x -> x.putNext(1)).with(x -> x.lensMake(1, 2));
        refused.refused(Probe.SEALED, x -> x.putNext(1)).with(x -> x.lensPlace(1, 0));
        refused.refused(Probe.SEALED, x -> x.putNext(1));
        Probe at = Told.fourths(says(46, "ACT. LENS 1 writes its cell; PLACE stays.")).with(x -> x.lensPlace(1, 1));
        at.act(1, x -> x.putAt(23, 32767)).tells(32767, x -> x.fourth(5, 3)).tells(1, x -> x.lens(1, 0));
        Probe beyond = Told.fourths(says(46, "Returns 1 if another FOURTH was there, otherwise 0; BEYOND if at is not "
                + "0 to LIMIT - 1; otherwise SEALED if it is SEALED."));
        beyond.with(x -> x.lensLimit(1, 2)).act(0, x -> x.putAt(1, 2)).act(1, x -> x.putAt(1, 3));
        beyond.refused(Probe.BEYOND, x -> x.putAt(2, 3)).refused(Probe.BEYOND, x -> x.putAt(-1, 3));
        beyond.with(x -> x.lensMake(1, 2)).refused(Probe.BEYOND, x -> x.putAt(2, 3));
        beyond.refused(Probe.BEYOND, x -> x.putAt(-1, 3)).refused(Probe.SEALED, x -> x.putAt(1, 3));
    }

    private static void times(Probe p, int many, Probe.Call call) {
        for (int i = 0; i < many; i++) {
            p.with(call);
        }
    }

    private static void whole() {
        Probe cell = Told.numbered(says(47, "Returns the VALUE of the NUMBER that it has, also if that does not LIE "
                + "in a QUEUE any more."));
        Told.put(cell, 1, 2).tells("1", x -> x.cellText(6)).with(x -> x.take(1, 5)).tells("1", x -> x.cellText(6));
        cell.with(x -> x.empty(1)).tells("2", x -> x.cellText(7)).tells("0", x -> x.cellText(8));
        Probe house = new Probe(says(48, "`what`: 0 how many acts were done; 1 to 6 how often a REFUSAL was told: 1 "
                + "FULL, 2 EMPTY, 3 UNMARKED, 4 SEALED, 5 BEYOND, 6 UNFIT; 7 how often one knocked Returns that."));
        house.with(x -> x.lensLimit(1, 0)).with(x -> x.putNext(1));
        times(house, 2, x -> x.take(0, 0));
        times(house, 3, x -> x.back(0));
        times(house, 4, x -> x.poke(0, 0));
        times(house, 5, x -> x.shortAt(0));
        times(house, 6, x -> x.lensPlace(1, 1));
        times(house, 7, x -> x.knock());
        house.tellsEach((x, what) -> x.house(what), 1, 1, 2, 3, 4, 5, 6, 7);
        Sluiceshelf x = new Sluiceshelf();
        String knock = says(49, "Knocks. Returns how often one knocked, with this.");
        for (int times = 1; times <= 3; times++) {
            Probe.due(knock, x.knock(), times);
            Probe.due(knock, x.house(7), times);
        }
        Probe digest = Told.numbered(says(51, "Computes a checksum. A number d starts with 7701; then d becomes d * "
                + "31 + v, which wraps around as a 64-bit integer, for each v in this order: slot by slot upper(), "
                + "lower(); QUEUE by QUEUE lies(), room(), place() of 0 to 6, the length of queueText(); cell by cell "
                + "of the LONG ROW UPPER, LOWER of what it has; pipe() of 0 to 7, the length of pipeText(); of LENS "
                + "0, then of LENS 1, lens() of 0 to 8; house() of 0 to 7; 1 if isSound(), otherwise 0. Returns d."));
        Told.put(Told.put(digest, 1, 3), 2, 6).with(y -> y.lay(0, MIN, -7)).with(y -> y.pourAll(0, 0));
        digest.with(y -> y.mark(1)).with(y -> y.take(1, 5)).with(y -> y.lensPlace(0, 7)).with(y -> y.lensMake(1, 2));
        digest.tells(true, y -> y.digest() == Digest.of(y));
    }
}
