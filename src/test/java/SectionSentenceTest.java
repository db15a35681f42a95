/**
 * Sections 1 to 7 of the document, sentence by sentence in its order: each test is named by the words that it would
 * fail without, and no sentence is left without a test.
 */
public final class SectionSentenceTest {
    private static final int MIN = Integer.MIN_VALUE;
    private static final int MAX = Integer.MAX_VALUE;
    private static final int[] SIZES = {5, 3, 6};

    public static void main(String[] args) throws Exception {
        numbers(Doc.section(1));
        Sentences windows = Doc.section(2);
        windows(windows);
        setAndMarked(windows);
        turned(windows);
        made(windows);
        windows.allSaid();
        rows(Doc.section(3));
        Sentences queues = Doc.section(4);
        queues(queues);
        settles(queues);
        lies(queues);
        queues.allSaid();
        pipe(Doc.section(5));
        lenses(Doc.section(6));
        acts(Doc.section(7));
        Probe.end();
    }

    private static void numbers(Sentences doc) {
        Probe halves = new Probe(doc.says("A NUMBER has 64 binary digits. UPPER are its first 32, LOWER its last 32, "
                + "each as an int."));
        halves.with(x -> x.lay(0, MIN, 1)).tells(MIN, x -> x.upper(0)).tells(1, x -> x.lower(0));
        halves.with(x -> x.lay(0, 1, MIN)).tells(1, x -> x.upper(0)).tells(MIN, x -> x.lower(0));
        halves.tells("6442450944", x -> x.slotText(0)).with(x -> x.lay(0, 0, -1)).tells(0, x -> x.upper(0));
        Probe fourths = new Probe(doc.says("Its FOURTHS 0 to 3 are 16 digits each, from the first ones on, as a whole "
                + "number of -32768 to 32767 (the first one of the 16 is the sign digit, negative ones are told by the "
                + "complement of two, as in an int)."));
        fourths.with(x -> x.lay(0, 0x80007FFF, 0xFFFF0001)).tellsEach((x, k) -> x.fourth(0, k), -32768, 32767, -1, 1);
        fourths.thrown(Probe.ARGUMENT, x -> x.fourth(0, 4)).thrown(Probe.ARGUMENT, x -> x.fourth(0, -1));
        fourths.thrown(Probe.ARGUMENT, x -> x.layFourth(0, 0, 32768)).act(1, x -> x.layFourth(0, 0, 32767));
        fourths.thrown(Probe.ARGUMENT, x -> x.layFourth(0, 0, -32769)).act(1, x -> x.layFourth(0, 0, -32768));
        Probe value = new Probe(doc.says("Its VALUE is that of its 64 digits told so: a whole number of -2^63 to 2^63 "
                + "- 1; in a text it stands in decimal digits, with \"-\" ahead if it is below 0."));
        value.tells("0", x -> x.slotText(0)).with(x -> x.lay(0, MIN, 0));
        value.tells("-9223372036854775808", x -> x.slotText(0)).with(x -> x.lay(0, MAX, -1));
        value.tells("9223372036854775807", x -> x.slotText(0)).with(x -> x.lay(0, -1, -1));
        value.tells("-1", x -> x.slotText(0)).with(x -> x.lay(0, 0, 1)).tells("1", x -> x.slotText(0));
        doc.allSaid();
    }

    /** The fourths of the shelf are 1 to 24, LENS 1 is the WINDOW. */
    private static Probe shelf(String about) {
        Probe p = new Probe(about);
        for (int i = 0; i < 6; i++) {
            int slot = i;
            int k = 4 * i;
            p.with(x -> x.lay(slot, (k + 1) << 16 | k + 2, (k + 3) << 16 | k + 4));
        }
        return p;
    }

    private static void windows(Sentences doc) {
        Probe cells = shelf(doc.says("A WINDOW stands on some neighbouring cells of a row, SIZE many (0 or more); they "
                + "are the WINDOW's cells 0 to SIZE - 1, and FIRST is that cell of the row which is its cell 0 (with "
                + "SIZE 0: which would be it) (the row's cells are counted from 0, too)."));
        cells.act(3, x -> x.lensCut(1, 4, 3)).act(5, x -> x.shortAt(0)).act(7, x -> x.shortAt(2));
        cells.refused(Probe.BEYOND, x -> x.shortAt(3)).refused(Probe.BEYOND, x -> x.shortAt(-1));
        cells.tells(15, x -> x.lens(1, 8)).act(0, x -> x.lensCut(1, 3, 0)).tells(18, x -> x.lens(1, 8));
        cells.tells(0, x -> x.lens(1, 2)).refused(Probe.BEYOND, x -> x.shortAt(0));
        Probe has = shelf(doc.says("It has a PLACE, a LIMIT and a MARK (-1: it has none). RESTS is LIMIT - PLACE."));
        has.with(x -> x.lensLimit(1, 20)).with(x -> x.lensPlace(1, 7));
        Told.lens(has, 1, 7, 20, 24, 13, -1);
        has.with(x -> x.lensTurn(1, 3)).tells(7, x -> x.lens(1, 4)).with(x -> x.lensPlace(1, 20));
        has.tells(0, x -> x.lens(1, 3));
        Probe several = shelf(doc.says("Several WINDOWs may stand on the same cells: what one writes the others "
                + "read."));
        several.with(x -> x.put(1, 0)).act(4, x -> x.longAt(6, 5)).with(x -> x.mend(1, 0, 1));
        several.act(4, x -> x.longAt(6, 5)).act(0, x -> x.take(1, 4)).tells(5, x -> x.fourth(4, 0));
        Probe sealed = shelf(doc.says("One that is SEALED never writes.")).with(x -> x.lensMake(1, 2));
        sealed.refused(Probe.SEALED, x -> x.putNext(9)).refused(Probe.SEALED, x -> x.putAt(0, 9));
        sealed.refused(Probe.SEALED, x -> x.lensTurn(1, 5)).refused(Probe.SEALED, x -> x.poke(0, 0));
        Probe next = shelf(doc.says("NEXT: if RESTS is 0, a WINDOW can neither read nor write NEXT; otherwise it "
                + "reads, or writes, its cell PLACE, and PLACE becomes greater by one."));
        next.with(x -> x.lensLimit(1, 2)).act(1, x -> x.nextShort()).tells(1, x -> x.lens(1, 0));
        next.act(1, x -> x.putNext(-2)).tells(2, x -> x.lens(1, 0)).tells(-2, x -> x.fourth(0, 1));
        next.refused(Probe.EMPTY, x -> x.nextShort()).refused(Probe.FULL, x -> x.putNext(9));
        next.tells(3, x -> x.fourth(0, 2));
    }

    /** PLACE 9, LIMIT 12, MARK 6. */
    private static Probe marked(String about) {
        return shelf(about).with(x -> x.lensLimit(1, 12)).with(x -> x.lensPlace(1, 6)).with(x -> x.lensTurn(1, 3))
                .with(x -> x.lensPlace(1, 9));
    }

    private static void setAndMarked(Sentences doc) {
        Probe place = marked(doc.says("PLACE set to p (0 to LIMIT): that; a MARK greater than p is gone."));
        place.refused(Probe.UNFIT, x -> x.lensPlace(1, 13)).refused(Probe.UNFIT, x -> x.lensPlace(1, -1));
        Told.lens(place.act(0, x -> x.lensPlace(1, 12)), 1, 12, 12, 24, 0, 6);
        Told.lens(place.act(6, x -> x.lensPlace(1, 6)), 1, 6, 12, 24, 6, 6);
        Told.lens(place.branch("MARK 6, PLACE 5").act(7, x -> x.lensPlace(1, 5)), 1, 5, 12, 24, 7, -1);
        Told.lens(place.act(12, x -> x.lensPlace(1, 0)), 1, 0, 12, 24, 12, -1);
        Probe limit = marked(doc.says("LIMIT set to n (0 to SIZE): that; a PLACE greater than n becomes n; a MARK "
                + "greater than n is gone."));
        limit.refused(Probe.UNFIT, x -> x.lensLimit(1, 25)).refused(Probe.UNFIT, x -> x.lensLimit(1, -1));
        Told.lens(limit.act(15, x -> x.lensLimit(1, 24)), 1, 9, 24, 24, 15, 6);
        Told.lens(limit.act(0, x -> x.lensLimit(1, 9)), 1, 9, 9, 24, 0, 6);
        Told.lens(limit.act(0, x -> x.lensLimit(1, 8)), 1, 8, 8, 24, 0, 6);
        Told.lens(limit.act(0, x -> x.lensLimit(1, 6)), 1, 6, 6, 24, 0, 6);
        Told.lens(limit.act(0, x -> x.lensLimit(1, 5)), 1, 5, 5, 24, 0, -1);
        Told.lens(limit.act(0, x -> x.lensLimit(1, 0)), 1, 0, 0, 24, 0, -1);
        Probe mark = marked(doc.says("MARKED: MARK becomes PLACE.")).act(9, x -> x.lensTurn(1, 3));
        Told.lens(mark, 1, 9, 12, 24, 3, 9);
        Probe back = marked(doc.says("SET BACK (if it has a MARK): PLACE becomes MARK, and the MARK stays."));
        Told.lens(back.act(6, x -> x.lensTurn(1, 4)), 1, 6, 12, 24, 6, 6);
        back.with(x -> x.lensTurn(1, 2)).refused(Probe.UNMARKED, x -> x.lensTurn(1, 4));
    }

    private static void turned(Sentences doc) {
        Probe cleared = marked(doc.says("CLEARED: PLACE 0, LIMIT SIZE, no MARK.")).act(0, x -> x.lensTurn(1, 0));
        Told.lens(cleared, 1, 0, 24, 24, 24, -1);
        Told.lens(cleared.with(x -> x.lensTurn(1, 3)).act(0, x -> x.lensTurn(1, 0)), 1, 0, 24, 24, 24, -1);
        Probe flipped = marked(doc.says("FLIPPED: LIMIT becomes PLACE, then PLACE 0, no MARK."));
        Told.lens(flipped.act(0, x -> x.lensTurn(1, 1)), 1, 0, 9, 24, 9, -1);
        Told.lens(flipped.with(x -> x.lensTurn(1, 3)).act(0, x -> x.lensTurn(1, 1)), 1, 0, 0, 24, 0, -1);
        Probe rewound = marked(doc.says("REWOUND: PLACE 0, no MARK, LIMIT as it was.")).act(0, x -> x.lensTurn(1, 2));
        Told.lens(rewound, 1, 0, 12, 24, 12, -1);
        Told.lens(rewound.with(x -> x.lensTurn(1, 3)).act(0, x -> x.lensTurn(1, 2)), 1, 0, 12, 24, 12, -1);
        Probe compacted = marked(doc.says("COMPACTED: what its cells PLACE to LIMIT - 1 have comes, in this order, to "
                + "its cells 0 to RESTS - 1; all its other cells keep what they have; then PLACE is what RESTS was, "
                + "LIMIT is SIZE, no MARK."));
        Told.lens(compacted.act(3, x -> x.lensTurn(1, 5)), 1, 3, 24, 24, 21, -1);
        compacted.tellsEach((x, k) -> x.fourth(k / 4, k % 4), 10, 11, 12, 4, 5, 6, 7, 8, 9, 10, 11, 12, 13, 14, 15);
        compacted.with(x -> x.lensPlace(1, 1)).act(23, x -> x.lensTurn(1, 5));
        compacted.tellsEach((x, k) -> x.fourth(k / 4, k % 4), 11, 12, 4, 5, 6, 7, 8, 9, 10, 11, 12, 13);
        compacted.tells(24, x -> x.fourth(5, 2)).tells(24, x -> x.fourth(5, 3));
    }

    private static void made(Sentences doc) {
        Probe twin = marked(doc.says("A TWIN of a WINDOW stands on the same cells, with the same PLACE, LIMIT and "
                + "MARK, and goes its own way from then on.")).act(24, x -> x.lensMake(1, 0));
        Told.lens(twin, 1, 9, 12, 24, 3, 6, 0, 1, 0, 11);
        twin.act(1, x -> x.putNext(-10)).tells(-10, x -> x.fourth(2, 1)).act(6, x -> x.lensTurn(1, 4));
        twin.act(24, x -> x.lensMake(1, 3));
        Told.lens(twin, 1, 0, 24, 24, 24, -1, 0, 1, 0, 11);
        String both = doc.says("A SLICE of it stands on its cells PLACE to LIMIT - 1; a CUT (from, many) on its cells "
                + "from to from + many - 1; both have as LIMIT their SIZE, PLACE 0 and no MARK.");
        Probe slice = marked(both).with(x -> x.lensTurn(1, 3)).act(3, x -> x.lensMake(1, 1));
        Told.lens(slice, 1, 0, 3, 3, 3, -1, 0, 1, 0, 20);
        slice.act(10, x -> x.shortAt(0)).act(12, x -> x.shortAt(2)).refused(Probe.BEYOND, x -> x.shortAt(3));
        slice.act(1, x -> x.putNext(-10)).tells(-10, x -> x.fourth(2, 1));
        Probe cut = marked(both).act(5, x -> x.lensCut(1, 6, 5));
        Told.lens(cut, 1, 0, 5, 5, 5, -1, 0, 1, 0, 17);
        cut.act(7, x -> x.shortAt(0)).act(11, x -> x.shortAt(4)).refused(Probe.BEYOND, x -> x.shortAt(5));
        cut.act(1, x -> x.putAt(4, -11)).tells(-11, x -> x.fourth(2, 2));
        Probe sealed = marked(doc.says("Those of a SEALED one are SEALED; a SEALED TWIN is a TWIN that is SEALED."));
        Told.lens(sealed.act(24, x -> x.lensMake(1, 2)), 1, 9, 12, 24, 3, 6, 1, 0, 0, -1);
        sealed.act(10, x -> x.nextShort()).refused(Probe.SEALED, x -> x.putAt(0, 9));
        sealed.branch("a TWIN of a SEALED one").act(24, x -> x.lensMake(1, 0)).tells(1, x -> x.lens(1, 5));
        sealed.branch("a SLICE of a SEALED one").act(2, x -> x.lensMake(1, 1)).tells(1, x -> x.lens(1, 5));
        sealed.branch("a CUT of a SEALED one").act(2, x -> x.lensCut(1, 0, 2)).tells(1, x -> x.lens(1, 5));
    }

    private static void rows(Sentences doc) {
        Probe longs = Told.numbered(doc.says("The LONG ROW has 16 cells with a NUMBER each: 1 to 5 are those of the "
                + "RING 0, 6 to 8 of the RING 1, 9 to 14 of the LINE; 0 and 15 belong to none."));
        Told.put(Told.put(Told.put(longs, 0, 5), 1, 3), 2, 6);
        longs.tellsEach((x, cell) -> x.cellText(cell), "0", "1", "2", "3", "4", "5", "1", "2", "3", "1", "2", "3", "4",
                "5", "6", "0");
        longs.thrown(Probe.INDEX, x -> x.cellText(16)).thrown(Probe.INDEX, x -> x.cellText(-1));
        Probe shorts = shelf(doc.says("The SHORT ROW has 36 cells with a FOURTH each: 1 to 10 are those of the PIPE, "
                + "11 to 34 of the SHELF; 0 and 35 belong to none."));
        shorts.tells(1, x -> x.pipe(6)).tells(10, x -> x.pipe(3)).tells(11, x -> x.lens(1, 8));
        shorts.tells(24, x -> x.lens(1, 2)).with(x -> x.pourAll(5, 0)).with(x -> x.pourAll(5, 0));
        shorts.with(x -> x.pourAll(5, 0)).tells("21 22 23 24 21 22 23 24 21 22", x -> x.pipeText());
        shorts.act(1, x -> x.nextShort()).act(24, x -> x.shortAt(23)).tells(true, x -> x.isSound());
        Probe none = new Probe(doc.says("All are 0 at first.")).act(0, x -> x.lensTurn(0, 0));
        for (int i = 0; i < 16; i++) {
            int cell = i;
            none.tells("0", x -> x.cellText(cell)).act(0, x -> x.longAt(cell, 0));
        }
        for (int i = 0; i < 24; i++) {
            int cell = i;
            none.act(0, x -> x.shortAt(cell));
        }
        slots(doc);
        doc.allSaid();
    }

    private static void slots(Sentences doc) {
        Probe slots = shelf(doc.says("The SHELF has six slots, 0 to 5. The FOURTH k of the slot s is in the cell 11 + "
                + "4 * s + k of the SHORT ROW; its NUMBER is the one with these four."));
        slots.thrown(Probe.INDEX, x -> x.slotText(6)).thrown(Probe.INDEX, x -> x.slotText(-1));
        for (int i = 0; i < 24; i++) {
            int k = i;
            slots.tells(k + 1, x -> x.fourth(k / 4, k % 4)).branch("cell " + (11 + k)).act(k + 1, x -> x.shortAt(k));
        }
        slots.act(1, x -> x.putAt(4, -1)).act(1, x -> x.putAt(7, 0)).tells("-281449206448128", x -> x.slotText(1));
        Probe laid = shelf(doc.says("That a NUMBER is laid into a slot changes these four cells."));
        laid.with(x -> x.lay(2, -1, -1)).act(8, x -> x.shortAt(7)).act(-1, x -> x.shortAt(8));
        laid.act(-1, x -> x.shortAt(9)).act(-1, x -> x.shortAt(10)).act(-1, x -> x.shortAt(11));
        laid.act(13, x -> x.shortAt(12));
    }

    private static void queues(Sentences doc) {
        Probe sizes = new Probe(doc.says("QUEUE 0 is the RING 0 (SIZE 5), QUEUE 1 the RING 1 (SIZE 3), QUEUE 2 the "
                + "LINE (SIZE 6)."));
        sizes.tellsEach((x, queue) -> x.place(queue, 5), 5, 3, 6).tellsEach((x, queue) -> x.place(queue, 6), 1, 6, 9);
        String both = doc.says("Each has two WINDOWs on its cells: WRITER and READER; READER is SEALED.");
        String first = doc.says("At first, and when it is emptied, WRITER has PLACE 0 and LIMIT SIZE, READER has "
                + "PLACE 0 and LIMIT 0, neither has a MARK, and the RING is not AROUND.");
        for (int i = 0; i < 3; i++) {
            int queue = i;
            int size = SIZES[i];
            Probe p = Told.numbered(both).with(x -> x.put(queue, 3)).act(0, x -> x.take(queue, 0));
            p.tells("4", x -> x.slotText(0)).refused(Probe.SEALED, x -> x.poke(queue, 3));
            Probe fresh = Told.numbered(first);
            Told.places(fresh, queue, 0, size, 0, 0, -1);
            Told.put(fresh, queue, size).with(x -> x.mark(queue)).with(x -> x.take(queue, 5));
            fresh.with(x -> x.empty(queue));
            Told.places(fresh, queue, 0, size, 0, 0, -1);
            Told.queue(fresh.with(x -> x.put(queue, 1)), queue, "2", size - 1, false, false);
        }
        Probe writer = Told.numbered(doc.says("WRITER never has a MARK."));
        Told.put(writer, 1, 2).with(x -> x.mark(1)).with(x -> x.back(1)).with(x -> x.put(1, 2)).with(x -> x.mark(1));
        Told.queue(writer, 1, "1 2 3", 0, true, false);
        Probe oldest = Told.numbered(doc.says("OLDEST is READER's MARK, if it has one, otherwise READER's PLACE; KEPT "
                + "ones are those in the cells from OLDEST to READER's PLACE - 1."));
        Told.take(Told.put(oldest, 0, 4), 0, 1).with(x -> x.mark(0));
        Told.take(oldest, 0, 2).tells(2, x -> x.room(0)).act(2, x -> x.back(0));
        oldest.tells("2 3 4", x -> x.queueText(0)).act(0, x -> x.forget(0)).with(x -> x.take(0, 5));
        oldest.tells(3, x -> x.room(0));
        Probe inAndOut = Told.numbered(doc.says("A NUMBER comes in: WRITER writes it NEXT. One goes out: READER reads "
                + "NEXT."));
        inAndOut.act(1, x -> x.put(0, 4)).act(2, x -> x.put(0, 2)).tells("5", x -> x.cellText(1));
        Told.places(inAndOut.tells("3", x -> x.cellText(2)), 0, 2, 5, 0, 2);
        Told.places(inAndOut.act(1, x -> x.take(0, 0)).tells("5", x -> x.slotText(0)), 0, 2, 5, 1, 2);
    }

    private static void settles(Sentences doc) {
        Probe after = Told.numbered(doc.says("After each of these, and after READER is MARKED, is SET BACK or loses "
                + "its MARK, the QUEUE SETTLES:"));
        Told.places(Told.put(after, 1, 3), 1, 0, 0, 0, 3, -1);
        Told.places(after.act(2, x -> x.take(1, 5)), 1, 0, 1, 1, 3, -1);
        Told.places(after.act(1, x -> x.mark(1)).act(1, x -> x.take(1, 5)), 1, 0, 1, 2, 3, 1);
        Told.places(after.branch("SET BACK").act(1, x -> x.back(1)), 1, 0, 1, 1, 3, 1);
        Told.places(after.branch("MARKED").act(2, x -> x.mark(1)), 1, 0, 2, 2, 3, 2);
        Told.places(after.branch("loses its MARK").act(1, x -> x.forget(1)), 1, 0, 2, 2, 3, -1);
        Probe around = Told.numbered(doc.says("a RING: if WRITER's PLACE is SIZE, WRITER is REWOUND, and the RING is "
                + "AROUND;"));
        Told.places(Told.take(Told.put(around, 0, 4), 0, 2), 0, 4, 5, 2, 4, -1);
        Told.places(around.act(3, x -> x.put(0, 4)), 0, 0, 2, 2, 5, -1);
        Probe notAround = around.branch(doc.says("otherwise, if it is AROUND and READER's PLACE is SIZE, READER is "
                + "REWOUND (its MARK is gone), and the RING is not AROUND any more."));
        notAround.with(x -> x.put(0, 0)).with(x -> x.mark(0));
        Told.places(Told.take(notAround, 0, 2), 0, 1, 2, 4, 5, 2);
        Told.places(notAround.act(1, x -> x.take(0, 5)), 0, 1, 5, 0, 1, -1);
        notAround.refused(Probe.UNMARKED, x -> x.back(0)).tells("1", x -> x.queueText(0));
        Probe first = Told.put(Told.numbered("section 4, a MARK at 0 is gone, too"), 0, 5).with(x -> x.mark(0));
        Told.places(Told.take(first, 0, 5).refused(Probe.UNMARKED, x -> x.back(0)), 0, 0, 5, 0, 0, -1);
        Probe limits = around.branch(doc.says("Then, if it is AROUND, READER's LIMIT is SIZE and WRITER's LIMIT is "
                + "OLDEST; if not, READER's LIMIT is WRITER's PLACE and WRITER's LIMIT is SIZE."));
        Told.places(limits.act(2, x -> x.take(0, 5)), 0, 0, 3, 3, 5, -1);
        Told.places(limits.act(3, x -> x.mark(0)).act(1, x -> x.take(0, 5)), 0, 0, 3, 4, 5, 3);
        Told.places(limits.act(0, x -> x.take(0, 5)), 0, 0, 5, 0, 0, -1);
        Told.places(limits.act(1, x -> x.put(0, 5)), 0, 1, 5, 0, 1, -1);
        Probe line = Told.numbered(doc.says("the LINE (never AROUND): READER's LIMIT is WRITER's PLACE, WRITER's "
                + "LIMIT is SIZE."));
        Told.places(Told.take(Told.put(line, 2, 3).with(x -> x.mark(2)), 2, 2), 2, 3, 6, 2, 3, 0);
        Told.places(Told.put(line, 2, 3), 2, 6, 6, 2, 6, 0);
        Told.places(Told.take(line, 2, 4), 2, 6, 6, 6, 6, 0);
    }

    private static void lies(Sentences doc) {
        Probe order = Told.numbered(doc.says("Those that LIE in a QUEUE are, in this order, the ones in the cells from "
                + "READER's PLACE to its LIMIT - 1, then, if it is AROUND, those from 0 to WRITER's PLACE - 1; the "
                + "first one of them has 0 ahead of it."));
        Told.put(Told.take(Told.put(order, 0, 4), 0, 3), 0, 3).tells("4 1 2 3", x -> x.queueText(0));
        Told.places(order, 0, 2, 3, 3, 5, -1);
        order.tells(4, x -> x.lies(0)).act(1, x -> x.look(0, 3, 4)).tells("3", x -> x.slotText(4));
        order.act(1, x -> x.look(0, 0, 4)).tells("4", x -> x.slotText(4)).refused(Probe.BEYOND, x -> x.look(0, 4, 4));
        order.with(x -> x.take(0, 5)).with(x -> x.take(0, 5)).tells("2 3", x -> x.queueText(0));
        Probe room = Told.numbered(doc.says("ROOM: how many could come in, one after another, if none went out: if it "
                + "is AROUND, RESTS of WRITER; otherwise that, of a RING together with OLDEST."));
        Told.take(Told.put(room, 0, 3), 0, 1).tells(3, x -> x.room(0)).with(x -> x.mark(0)).with(x -> x.take(0, 5));
        Told.put(room.tells(3, x -> x.room(0)), 0, 2).tells(1, x -> x.room(0)).act(4, x -> x.put(0, 0));
        room.tells(0, x -> x.room(0)).refused(Probe.FULL, x -> x.put(0, 0)).with(x -> x.forget(0));
        Told.take(Told.put(room.tells(1, x -> x.room(0)), 2, 4), 2, 3).tells(2, x -> x.room(2));
        room.act(2, x -> x.put(2, 0)).act(3, x -> x.put(2, 0)).refused(Probe.FULL, x -> x.put(2, 0));
        String edges = doc.says("It is full if RESTS of WRITER is 0, empty if RESTS of READER is 0 (the LINE is both, "
                + "if WRITER and READER are at its end).");
        for (int i = 0; i < 2; i++) {
            int ring = i;
            int size = SIZES[i];
            Probe p = Told.numbered(edges);
            Told.queue(p, ring, "", size, false, true);
            Told.put(p, ring, size - 1).tells(false, x -> x.isFull(ring)).tells(false, x -> x.isEmpty(ring));
            p.with(x -> x.put(ring, 4)).tells(true, x -> x.isFull(ring)).tells(false, x -> x.isEmpty(ring));
            Told.queue(Told.take(p, ring, size), ring, "", size, false, true);
        }
        Probe line = Told.put(Told.numbered(edges), 2, 5);
        line.tells(false, x -> x.isFull(2)).with(x -> x.put(2, 5)).tells(true, x -> x.isFull(2));
        Told.take(line, 2, 5).tells(true, x -> x.isFull(2)).tells(false, x -> x.isEmpty(2));
        Told.queue(line.with(x -> x.take(2, 5)), 2, "", 0, true, true);
    }

    private static void pipe(Sentences doc) {
        Probe first = Told.fourths(doc.says("The PIPE is one WINDOW (SIZE 10), CLEARED at first. It is either FILLING "
                + "(at first) or DRAINING."));
        Told.pipe(first, 0, 10, 10, 10, -1, 0, 1, 0);
        first.thrown(Probe.STATE, x -> x.draw()).with(x -> x.turn()).thrown(Probe.STATE, x -> x.pour(0, 0));
        first.tells(1, x -> x.pipe(5)).with(x -> x.turn()).tells(0, x -> x.pipe(5));
        Probe lies = Told.fourths(doc.says("What lies in it are the FOURTHS in its cells, while it is FILLING from 0 "
                + "to PLACE - 1, while it is DRAINING from PLACE to LIMIT - 1."));
        lies.tells("", x -> x.pipeText()).with(x -> x.pourAll(0, 0)).with(x -> x.pour(1, 0));
        lies.tells("1 2 3 4 -1", x -> x.pipeText()).tells(5, x -> x.pipe(7)).with(x -> x.turn());
        lies.tells("1 2 3 4 -1", x -> x.pipeText()).tells(5, x -> x.pipe(7)).with(x -> x.draw()).with(x -> x.draw());
        lies.tells("3 4 -1", x -> x.pipeText()).tells(3, x -> x.pipe(7)).with(x -> x.turn());
        lies.tells("3 4 -1", x -> x.pipeText()).with(x -> x.again()).tells("", x -> x.pipeText());
        doc.allSaid();
    }

    private static void lenses(Sentences doc) {
        Probe longs = new Probe(doc.says("LENS 0 is a SEALED WINDOW over the LONG ROW, at first on all its 16 cells, "
                + "with PLACE 1 and LIMIT 15;"));
        Told.lens(longs, 0, 1, 15, 16, 14, -1, 1, 0, 0, -1);
        longs.refused(Probe.SEALED, x -> x.lensTurn(0, 5)).with(x -> x.put(0, 0)).act(0, x -> x.longAt(1, 0));
        Probe shorts = new Probe(doc.says("LENS 1 is one over the SHORT ROW, at first on the cells of the SHELF, "
                + "CLEARED and not SEALED."));
        Told.lens(shorts, 1, 0, 24, 24, 24, -1, 0, 1, 0, 11);
        shorts.act(1, x -> x.putNext(5)).tells(5, x -> x.fourth(0, 0)).act(1, x -> x.putAt(23, 6));
        shorts.tells(6, x -> x.fourth(5, 3));
        Probe marks = new Probe(doc.says("Neither has a MARK at first."));
        marks.refused(Probe.UNMARKED, x -> x.lensTurn(0, 4)).refused(Probe.UNMARKED, x -> x.lensTurn(1, 4));
        doc.allSaid();
    }

    private static void acts(Sentences doc) {
        Probe thrown = Told.numbered(doc.says("A method that throws an exception changes nothing. If several "
                + "exceptions apply, the one that is named first is thrown."));
        thrown.with(x -> x.put(0, 0)).thrown(Probe.INDEX, x -> x.take(0, 6)).thrown(Probe.INDEX, x -> x.look(0, 10, 6));
        thrown.thrown(Probe.ARGUMENT, x -> x.pass(0, 0)).thrown(Probe.STATE, x -> x.draw()).with(x -> x.turn());
        thrown.thrown(Probe.INDEX, x -> x.pour(6, 4)).thrown(Probe.ARGUMENT, x -> x.pour(0, 4));
        thrown.thrown(Probe.STATE, x -> x.pour(0, 3)).thrown(Probe.INDEX, x -> x.layFourth(-1, 4, 32768));
        Probe kinds = Told.numbered(doc.says("Exceptions go ahead of REFUSALS: what is let, but cannot be done, tells "
                + "a negative number by its KIND: FULL -70001, EMPTY -70002, UNMARKED -70003, SEALED -70004, BEYOND "
                + "-70005, UNFIT -70006."));
        kinds.thrown(Probe.INDEX, x -> x.take(0, 6)).with(x -> x.lensLimit(1, 0));
        kinds.thrown(Probe.ARGUMENT, x -> x.putNext(32768)).refused(Probe.FULL, x -> x.putNext(1));
        kinds.refused(Probe.EMPTY, x -> x.take(0, 0)).refused(Probe.UNMARKED, x -> x.back(0));
        kinds.refused(Probe.SEALED, x -> x.poke(0, 0)).refused(Probe.BEYOND, x -> x.look(0, 0, 0));
        kinds.refused(Probe.UNFIT, x -> x.lensPlace(0, 16));
        Probe once = Told.numbered(doc.says("Nothing is changed then, but that it is counted, once a call."));
        once.refused(Probe.EMPTY, x -> x.take(0, 0)).refused(Probe.EMPTY, x -> x.take(0, 0)).tells(2, x -> x.house(2));
        Probe act = new Probe(doc.says("A method that begins with \"ACT.\" is an act: it is counted as done, if it "
                + "neither threw nor told a REFUSAL (also if all stays as it was)."));
        act.actWithoutChange(0, x -> x.lay(0, 0, 0)).thrown(Probe.INDEX, x -> x.lay(6, 0, 0)).tells(1, x -> x.house(0));
        act.refused(Probe.EMPTY, x -> x.take(0, 0)).tells(1, x -> x.house(0));
        Probe others = new Probe(doc.says("Other methods change nothing (knock() but counts)."));
        others.tells(0, x -> x.house(0)).tells(true, x -> x.isSound()).with(x -> x.knock()).tells(1, x -> x.house(7));
        others.tells(0, x -> x.house(0));
        Probe into = Told.numbered(doc.says("To come \"into a slot\" is to be laid there; such a method tells how "
                + "many of the slot's four FOURTHS are others then, if nothing else is said."));
        into.with(x -> x.lay(5, -1, -1)).with(x -> x.put(0, 0)).act(4, x -> x.look(0, 0, 5))
                .act(0, x -> x.look(0, 0, 5));
        into.tells("1", x -> x.slotText(5)).act(1, x -> x.nextLong(4)).act(0, x -> x.longAt(1, 4));
        into.act(0, x -> x.take(0, 3)).tells("1", x -> x.slotText(3));
        // FaceTest holds the class against the signatures
        doc.says("The constructor and the methods follow, a promise each: the signature, then what it does.");
        doc.allSaid();
    }
}
