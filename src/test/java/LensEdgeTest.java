/**
 * The lenses at their edges: SIZE 0, RESTS 0, sealed, a slice of a slice, a cut at its limit, twins, marks, and cells
 * that a queue or the shelf changes meanwhile.
 */
public final class LensEdgeTest {
    private static final int MIN = Integer.MIN_VALUE;
    private static final int MAX = Integer.MAX_VALUE;

    public static void main(String[] args) {
        sizeNone();
        sizeNoneSealed();
        firstOfSizeNone();
        restsNone();
        limitNone();
        placeAndMark();
        limitPlaceAndMark();
        turnsAtTheEnds();
        setBackKeepsTheMark();
        compactedAtTheEnds();
        compactedPart();
        twinKeepsAll();
        sealedStaysSealed();
        sealedReads();
        sliceOfASlice();
        sliceOfALongSlice();
        cutAtItsLimit();
        cutOfACut();
        asAtFirst();
        wholeRow();
        queueChangesTheCells();
        lineChangesTheCells();
        shelfChangesTheCells();
        lensChangesTheShelf();
        lensReadsIntoItsOwnCells();
        leastAndGreatest();
        Probe.end();
    }

    /** The fourths of the shelf are 1 to 24. */
    private static Probe shelf(String about) {
        Probe p = new Probe(about);
        for (int i = 0; i < 6; i++) {
            int slot = i;
            int k = 4 * i;
            p.with(x -> x.lay(slot, (k + 1) << 16 | k + 2, (k + 3) << 16 | k + 4));
        }
        return p;
    }

    /** The fourths from the first one of a slot on are so. */
    private static void fourths(Probe p, int slot, Object... wants) {
        p.tellsEach((x, k) -> x.fourth(slot + k / 4, k % 4), wants);
    }

    private static void sizeNone() {
        for (int i = 0; i < 2; i++) {
            int lens = i;
            Probe p = shelf("SIZE 0, lens " + lens).with(x -> x.lensPlace(lens, 5)).with(x -> x.lensLimit(lens, 5));
            p.act(0, x -> x.lensMake(lens, 1)).tells(0, x -> x.lens(lens, 3)).tells(-1, x -> x.lens(lens, 4));
            p.actWithoutChange(0, x -> x.lensPlace(lens, 0)).actWithoutChange(0, x -> x.lensLimit(lens, 0));
            for (int wrong : new int[] {-1, 1, MIN, MAX}) {
                p.refused(Probe.UNFIT, x -> x.lensPlace(lens, wrong));
                p.refused(Probe.UNFIT, x -> x.lensLimit(lens, wrong));
                p.refused(Probe.BEYOND, x -> x.lensCut(lens, wrong, 0));
                p.refused(Probe.BEYOND, x -> x.lensCut(lens, 0, wrong));
            }
            p.actWithoutChange(0, x -> x.lensTurn(lens, 0)).actWithoutChange(0, x -> x.lensTurn(lens, 1));
            p.actWithoutChange(0, x -> x.lensTurn(lens, 2)).refused(Probe.UNMARKED, x -> x.lensTurn(lens, 4));
            p.act(0, x -> x.lensTurn(lens, 3)).tells(0, x -> x.lens(lens, 4)).act(0, x -> x.lensTurn(lens, 4));
            p.actWithoutChange(0, x -> x.lensMake(lens, 0)).act(0, x -> x.lensMake(lens, 1));
            p.actWithoutChange(0, x -> x.lensCut(lens, 0, 0));
        }
        Probe longs = new Probe("SIZE 0, lens 0").with(x -> x.lensCut(0, 3, 0))
                .refused(Probe.EMPTY, x -> x.nextLong(0));
        longs.refused(Probe.BEYOND, x -> x.longAt(0, 0)).refused(Probe.BEYOND, x -> x.longAt(-1, 0));
        Probe shorts = new Probe("SIZE 0, lens 1").with(x -> x.lensCut(1, 3, 0))
                .refused(Probe.EMPTY, x -> x.nextShort());
        shorts.refused(Probe.BEYOND, x -> x.shortAt(0)).refused(Probe.BEYOND, x -> x.putAt(0, 1));
        shorts.refused(Probe.FULL, x -> x.putNext(1)).actWithoutChange(0, x -> x.lensTurn(1, 5));
    }

    private static void sizeNoneSealed() {
        Probe p = new Probe("SIZE 0 and sealed").with(x -> x.lensCut(1, 24, 0)).act(0, x -> x.lensMake(1, 2));
        Told.lens(p, 1, 0, 0, 0, 0, -1, 1, 0, 0, -1);
        p.refused(Probe.SEALED, x -> x.putNext(1)).refused(Probe.BEYOND, x -> x.putAt(0, 1));
        p.refused(Probe.SEALED, x -> x.lensTurn(1, 5)).refused(Probe.EMPTY, x -> x.nextShort());
        p.act(0, x -> x.lensMake(1, 1)).tells(1, x -> x.lens(1, 5)).act(24, x -> x.lensMake(1, 3));
        p.tells(0, x -> x.lens(1, 5)).act(1, x -> x.putNext(1));
    }

    private static void firstOfSizeNone() {
        for (int i = 0; i <= 24; i++) {
            int from = i;
            Probe p = new Probe("section 2, FIRST with SIZE 0, from " + from).act(0, x -> x.lensCut(1, from, 0));
            Told.lens(p, 1, 0, 0, 0, 0, -1, 0, 1, 0, 11 + from);
        }
    }

    private static void restsNone() {
        Probe p = shelf("RESTS 0").with(x -> x.lensLimit(1, 4)).with(x -> x.lensPlace(1, 4))
                .tells(0, x -> x.lens(1, 3));
        p.refused(Probe.EMPTY, x -> x.nextShort()).refused(Probe.FULL, x -> x.putNext(9));
        p.actWithoutChange(4, x -> x.shortAt(3)).act(1, x -> x.putAt(3, 9)).refused(Probe.BEYOND, x -> x.putAt(4, 9));
        p.act(1, x -> x.lensLimit(1, 5)).act(5, x -> x.nextShort()).refused(Probe.EMPTY, x -> x.nextShort());
        Probe longs = Told.numbered("RESTS 0, lens 0").with(x -> x.put(0, 4)).with(x -> x.lensPlace(0, 15));
        longs.refused(Probe.EMPTY, x -> x.nextLong(0)).act(1, x -> x.longAt(1, 0)).tells("5", x -> x.slotText(0));
        longs.act(1, x -> x.lensLimit(0, 16)).act(1, x -> x.nextLong(0)).refused(Probe.EMPTY, x -> x.nextLong(0));
    }

    private static void limitNone() {
        Probe p = shelf("LIMIT 0 with SIZE 24").act(0, x -> x.lensTurn(1, 1));
        Told.lens(p, 1, 0, 0, 24, 0, -1, 0, 1, 0, 11);
        p.refused(Probe.BEYOND, x -> x.shortAt(0)).refused(Probe.BEYOND, x -> x.putAt(0, 1));
        p.refused(Probe.EMPTY, x -> x.nextShort()).refused(Probe.FULL, x -> x.putNext(1));
        p.refused(Probe.UNFIT, x -> x.lensPlace(1, 1)).refused(Probe.BEYOND, x -> x.lensCut(1, 0, 1));
        p.branch("a slice with LIMIT 0").act(0, x -> x.lensMake(1, 1)).tells(0, x -> x.lens(1, 2));
        p.branch("a cut with LIMIT 0").act(0, x -> x.lensCut(1, 0, 0)).tells(0, x -> x.lens(1, 2));
        p.branch("cleared with LIMIT 0").act(0, x -> x.lensTurn(1, 0)).tells(24, x -> x.lens(1, 1));
        p.branch("compacted with LIMIT 0").act(0, x -> x.lensTurn(1, 5)).tells(24, x -> x.lens(1, 1));
        Probe longs = new Probe("LIMIT 0 with SIZE 16").act(0, x -> x.lensLimit(0, 0));
        longs.refused(Probe.BEYOND, x -> x.longAt(0, 0)).refused(Probe.EMPTY, x -> x.nextLong(0));
    }

    /** A lens with LIMIT 12, MARK 6 and PLACE 9. */
    private static Probe marked(String about, int lens) {
        Probe p = shelf(about + ", lens " + lens).with(x -> x.lensLimit(lens, 12)).with(x -> x.lensPlace(lens, 6));
        return p.with(x -> x.lensTurn(lens, 3)).with(x -> x.lensPlace(lens, 9));
    }

    private static void placeAndMark() {
        for (int i = 0; i < 2; i++) {
            int lens = i;
            marked("PLACE 12, its LIMIT", lens).act(0, x -> x.lensPlace(lens, 12)).tells(6, x -> x.lens(lens, 4));
            marked("PLACE 7, behind MARK", lens).act(5, x -> x.lensPlace(lens, 7)).tells(6, x -> x.lens(lens, 4));
            marked("PLACE 6, at MARK", lens).act(6, x -> x.lensPlace(lens, 6)).tells(6, x -> x.lens(lens, 4));
            marked("PLACE 5, ahead of MARK", lens).act(7, x -> x.lensPlace(lens, 5)).tells(-1, x -> x.lens(lens, 4));
            marked("PLACE 0", lens).act(12, x -> x.lensPlace(lens, 0))
                    .refused(Probe.UNMARKED, x -> x.lensTurn(lens, 4));
            Probe start = marked("a MARK at 0", lens).with(x -> x.lensPlace(lens, 0)).act(0, x -> x.lensTurn(lens, 3));
            start.act(12, x -> x.lensPlace(lens, 0)).tells(0, x -> x.lens(lens, 4)).act(0, x -> x.lensTurn(lens, 4));
        }
    }

    private static void limitPlaceAndMark() {
        int[][] wants = {{16, 9, 6}, {13, 9, 6}, {10, 9, 6}, {9, 9, 6}, {8, 8, 6}, {7, 7, 6}, {6, 6, 6},
            {5, 5, -1}, {0, 0, -1}};
        for (int i = 0; i < 2; i++) {
            int lens = i;
            for (int[] want : wants) {
                Probe p = marked("LIMIT " + want[0], lens).act(want[0] - want[1], x -> x.lensLimit(lens, want[0]));
                p.tells(want[1], x -> x.lens(lens, 0)).tells(want[0], x -> x.lens(lens, 1));
                p.tells(want[2], x -> x.lens(lens, 4)).tells(lens == 0 ? 16 : 24, x -> x.lens(lens, 2));
            }
        }
    }

    private static void turnsAtTheEnds() {
        for (int i = 0; i < 2; i++) {
            int lens = i;
            int size = i == 0 ? 16 : 24;
            int[] places = {0, 9, 12};
            for (int place : places) {
                Probe p = marked("PLACE " + place, lens).with(x -> x.lensPlace(lens, place))
                        .with(x -> x.lensTurn(lens, 3));
                places(p.branch("CLEARED").act(0, x -> x.lensTurn(lens, 0)), lens, 0, size, size, size, -1);
                places(p.branch("FLIPPED").act(0, x -> x.lensTurn(lens, 1)), lens, 0, place, size, place, -1);
                places(p.branch("REWOUND").act(0, x -> x.lensTurn(lens, 2)), lens, 0, 12, size, 12, -1);
                Probe again = p.branch("MARKED").act(place, x -> x.lensTurn(lens, 3));
                places(again, lens, place, 12, size, 12 - place, place);
            }
        }
    }

    private static void places(Probe p, int lens, int place, int limit, int size, int rests, int mark) {
        Told.lens(p, lens, place, limit, size, rests, mark);
    }

    private static void setBackKeepsTheMark() {
        for (int i = 0; i < 2; i++) {
            int lens = i;
            Probe p = marked("SET BACK", lens).act(6, x -> x.lensTurn(lens, 4)).tells(6, x -> x.lens(lens, 0));
            p.tells(6, x -> x.lens(lens, 4)).actWithoutChange(6, x -> x.lensTurn(lens, 4))
                    .with(x -> x.lensPlace(lens, 12));
            p.act(6, x -> x.lensTurn(lens, 4)).tells(12, x -> x.lens(lens, 1));
        }
    }

    private static void compactedAtTheEnds() {
        Probe all = shelf("COMPACTED with all resting").with(x -> x.lensTurn(1, 3)).act(24, x -> x.lensTurn(1, 5));
        places(all, 1, 24, 24, 24, 0, -1);
        fourths(all, 0, 1, 2, 3, 4, 5, 6, 7, 8, 9, 10, 11, 12, 13, 14, 15, 16, 17, 18, 19, 20, 21, 22, 23, 24);
        Probe none = shelf("COMPACTED with none resting").with(x -> x.lensPlace(1, 24)).with(x -> x.lensTurn(1, 3));
        places(none.act(0, x -> x.lensTurn(1, 5)), 1, 0, 24, 24, 24, -1);
        fourths(none, 0, 1, 2, 3, 4, 5, 6, 7, 8, 9, 10, 11, 12, 13, 14, 15, 16, 17, 18, 19, 20, 21, 22, 23, 24);
        Probe last = shelf("COMPACTED with one resting").with(x -> x.lensPlace(1, 23)).act(1, x -> x.lensTurn(1, 5));
        fourths(last, 0, 24, 2, 3, 4, 5, 6, 7, 8, 9, 10, 11, 12, 13, 14, 15, 16, 17, 18, 19, 20, 21, 22, 23, 24);
        Probe first = shelf("COMPACTED by one").with(x -> x.lensPlace(1, 1)).act(23, x -> x.lensTurn(1, 5));
        fourths(first, 0, 2, 3, 4, 5, 6, 7, 8, 9, 10, 11, 12, 13, 14, 15, 16, 17, 18, 19, 20, 21, 22, 23, 24, 24);
    }

    /** The cells ahead of a part and behind it are not the part's. */
    private static void compactedPart() {
        Probe p = shelf("COMPACTED part").with(x -> x.lensCut(1, 4, 8)).with(x -> x.lensLimit(1, 6));
        p.with(x -> x.lensPlace(1, 2)).act(4, x -> x.lensTurn(1, 5));
        Told.lens(p, 1, 4, 8, 8, 4, -1, 0, 1, 0, 15);
        fourths(p, 0, 1, 2, 3, 4, 7, 8, 9, 10, 9, 10, 11, 12, 13, 14, 15, 16);
    }

    private static void twinKeepsAll() {
        for (int i = 0; i < 2; i++) {
            int lens = i;
            int size = i == 0 ? 16 : 24;
            Probe p = marked("a TWIN", lens).actWithoutChange(size, x -> x.lensMake(lens, 0));
            places(p, lens, 9, 12, size, 3, 6);
            p.act(6, x -> x.lensTurn(lens, 4));
            Probe sealed = marked("a SEALED TWIN", lens).act(size, x -> x.lensMake(lens, 2));
            Told.lens(sealed, lens, 9, 12, size, 3, 6, 1, 0, 0, -1);
            sealed.act(6, x -> x.lensTurn(lens, 4));
        }
    }

    private static void sealedStaysSealed() {
        Probe p = shelf("section 2, those of a sealed one").with(x -> x.lensMake(1, 2)).tells(1, x -> x.lens(1, 5));
        for (int i = 0; i <= 2; i++) {
            int how = i;
            Probe made = p.branch("lensMake " + how + " of a sealed one").act(24, x -> x.lensMake(1, how));
            Told.lens(made, 1, 0, 24, 24, 24, -1, 1, 0, 0, -1);
            made.refused(Probe.SEALED, x -> x.putNext(9)).refused(Probe.SEALED, x -> x.putAt(0, 9));
        }
        Probe cut = p.branch("a CUT of a sealed one").act(4, x -> x.lensCut(1, 3, 4));
        Told.lens(cut, 1, 0, 4, 4, 4, -1, 1, 0, 0, -1);
        cut.refused(Probe.SEALED, x -> x.putAt(3, 9)).refused(Probe.SEALED, x -> x.lensTurn(1, 5))
                .act(4, x -> x.nextShort());
        Probe unsealed = p.branch("as at first").act(24, x -> x.lensMake(1, 3)).act(1, x -> x.putNext(9));
        unsealed.tells(9, x -> x.fourth(0, 0)).tells(11, x -> x.lens(1, 8));
    }

    private static void sealedReads() {
        Probe p = shelf("a sealed one reads").with(x -> x.lensMake(1, 2)).act(1, x -> x.nextShort());
        p.act(2, x -> x.nextShort()).actWithoutChange(24, x -> x.shortAt(23)).act(2, x -> x.lensTurn(1, 3));
        p.act(21, x -> x.lensPlace(1, 3)).act(2, x -> x.lensTurn(1, 4)).act(0, x -> x.lensTurn(1, 1));
        p.act(2, x -> x.lensLimit(1, 2)).act(0, x -> x.lensTurn(1, 2)).act(0, x -> x.lensTurn(1, 0));
        p.with(x -> x.lay(0, -1, -1)).act(-1, x -> x.nextShort());
    }

    private static void sliceOfASlice() {
        Probe p = shelf("a SLICE of a SLICE").with(x -> x.lensLimit(1, 20)).with(x -> x.lensPlace(1, 3));
        p.act(17, x -> x.lensMake(1, 1));
        Told.lens(p, 1, 0, 17, 17, 17, -1, 0, 1, 0, 14);
        p.act(4, x -> x.shortAt(0)).act(20, x -> x.shortAt(16)).refused(Probe.BEYOND, x -> x.shortAt(17));
        p.with(x -> x.lensLimit(1, 9)).with(x -> x.lensPlace(1, 4)).with(x -> x.lensTurn(1, 3));
        p.act(5, x -> x.lensMake(1, 1));
        Told.lens(p, 1, 0, 5, 5, 5, -1, 0, 1, 0, 18);
        p.act(8, x -> x.shortAt(0)).act(12, x -> x.shortAt(4)).refused(Probe.BEYOND, x -> x.shortAt(5));
        p.act(1, x -> x.putNext(-8)).act(1, x -> x.putAt(4, -12));
        fourths(p, 1, 5, 6, 7, -8, 9, 10, 11, -12, 13);
        p.act(4, x -> x.lensMake(1, 1)).tells(19, x -> x.lens(1, 8)).act(9, x -> x.shortAt(0));
    }

    private static void sliceOfALongSlice() {
        Probe p = Told.numbered("a SLICE of a SLICE of lens 0");
        for (int i = 0; i < 6; i++) {
            int slot = i;
            p.with(x -> x.put(2, slot));
        }
        p.with(x -> x.lensPlace(0, 8)).act(7, x -> x.lensMake(0, 1)).with(x -> x.lensLimit(0, 6));
        p.with(x -> x.lensPlace(0, 2)).act(4, x -> x.lensMake(0, 1));
        Told.lens(p, 0, 0, 4, 4, 4, -1, 1, 0, 0, -1);
        p.act(1, x -> x.longAt(0, 5)).tells("2", x -> x.slotText(5)).act(1, x -> x.longAt(3, 5))
                .tells("5", x -> x.slotText(5));
        p.refused(Probe.BEYOND, x -> x.longAt(4, 5)).act(1, x -> x.nextLong(5)).tells("2", x -> x.slotText(5));
    }

    private static void cutAtItsLimit() {
        Probe p = shelf("promise 39, at LIMIT").with(x -> x.lensLimit(1, 10));
        p.branch("from LIMIT on, none").act(0, x -> x.lensCut(1, 10, 0)).tells(21, x -> x.lens(1, 8));
        p.branch("up to LIMIT").act(10, x -> x.lensCut(1, 0, 10)).tells(10, x -> x.lens(1, 2));
        Probe last = p.branch("the last one").act(1, x -> x.lensCut(1, 9, 1)).act(10, x -> x.shortAt(0));
        Told.lens(last, 1, 0, 1, 1, 1, -1, 0, 1, 0, 20);
        last.refused(Probe.BEYOND, x -> x.lensCut(1, 1, 1)).act(0, x -> x.lensCut(1, 1, 0));
        p.refused(Probe.BEYOND, x -> x.lensCut(1, 10, 1)).refused(Probe.BEYOND, x -> x.lensCut(1, 11, 0));
        p.refused(Probe.BEYOND, x -> x.lensCut(1, 0, 11)).refused(Probe.BEYOND, x -> x.lensCut(1, 9, 2));
        p.with(x -> x.lensPlace(1, 8)).act(5, x -> x.lensCut(1, 2, 5)).tells(13, x -> x.lens(1, 8));
        Probe longs = new Probe("promise 39, at LIMIT 15").act(0, x -> x.lensCut(0, 15, 0));
        longs.refused(Probe.EMPTY, x -> x.nextLong(0)).refused(Probe.BEYOND, x -> x.longAt(0, 0));
    }

    private static void cutOfACut() {
        Probe p = shelf("a CUT of a CUT").with(x -> x.lensTurn(1, 3)).act(12, x -> x.lensCut(1, 6, 12));
        Told.lens(p, 1, 0, 12, 12, 12, -1, 0, 1, 0, 17);
        p.act(5, x -> x.lensCut(1, 7, 5));
        Told.lens(p, 1, 0, 5, 5, 5, -1, 0, 1, 0, 24);
        p.act(14, x -> x.nextShort()).act(18, x -> x.shortAt(4)).refused(Probe.BEYOND, x -> x.shortAt(5));
        p.act(1, x -> x.putAt(4, 0));
        fourths(p, 3, 13, 14, 15, 16, 17, 0, 19);
    }

    private static void asAtFirst() {
        Probe longs = marked("promise 38, as at first", 0).with(x -> x.lensCut(0, 2, 3)).act(16, x -> x.lensMake(0, 3));
        Told.lens(longs, 0, 1, 15, 16, 14, -1, 1, 0, 0, -1);
        Probe shorts = marked("promise 38, as at first", 1).with(x -> x.lensMake(1, 2)).act(24, x -> x.lensMake(1, 3));
        Told.lens(shorts, 1, 0, 24, 24, 24, -1, 0, 1, 0, 11);
        Probe mark = marked("promise 38, without its MARK", 0).act(16, x -> x.lensMake(0, 3));
        mark.refused(Probe.UNMARKED, x -> x.lensTurn(0, 4));
    }

    /** Cleared, lens 0 sees the cells 0 and 15, too, which belong to no queue. */
    private static void wholeRow() {
        Probe p = Told.numbered("section 6, all 16 cells");
        for (int i = 0; i < 14; i++) {
            int queue = i < 5 ? 0 : i < 8 ? 1 : 2;
            p.with(x -> x.put(queue, 4));
        }
        p.act(0, x -> x.lensTurn(0, 0)).act(1, x -> x.longAt(0, 0)).tells("0", x -> x.slotText(0));
        p.act(1, x -> x.longAt(15, 1)).tells("0", x -> x.slotText(1)).act(1, x -> x.longAt(14, 1));
        p.act(0, x -> x.nextLong(0)).act(1, x -> x.nextLong(0)).tells("5", x -> x.slotText(0));
        p.refused(Probe.BEYOND, x -> x.longAt(16, 0)).act(1, x -> x.lensPlace(0, 15)).act(1, x -> x.nextLong(0));
        p.tells("0", x -> x.slotText(0)).refused(Probe.EMPTY, x -> x.nextLong(0));
    }

    private static void queueChangesTheCells() {
        Probe p = Told.numbered("lens 0 over a ring").with(x -> x.lensCut(0, 6, 3)).with(x -> x.lensMake(0, 0));
        p.act(1, x -> x.longAt(0, 0)).tells("0", x -> x.slotText(0)).with(x -> x.put(1, 1));
        p.act(1, x -> x.longAt(0, 0)).tells("2", x -> x.slotText(0)).with(x -> x.mend(1, 0, 2));
        p.act(1, x -> x.nextLong(0)).tells("3", x -> x.slotText(0)).with(x -> x.take(1, 5));
        p.act(0, x -> x.longAt(0, 0)).with(x -> x.put(1, 3)).act(1, x -> x.nextLong(0)).tells("4", x -> x.slotText(0));
        p.with(x -> x.put(1, 4)).with(x -> x.put(1, 5)).tells(1, x -> x.lens(0, 3));
        p.act(1, x -> x.longAt(0, 0)).tells("3", x -> x.slotText(0)).act(1, x -> x.nextLong(0));
        p.tells("5", x -> x.slotText(0)).with(x -> x.empty(1)).act(0, x -> x.longAt(2, 0));
    }

    private static void lineChangesTheCells() {
        Probe p = Told.numbered("lens 0 over the line").with(x -> x.lensCut(0, 9, 6)).with(x -> x.lensMake(0, 1));
        p.with(x -> x.put(2, 1)).with(x -> x.put(2, 2)).with(x -> x.put(2, 3)).with(x -> x.take(2, 5));
        p.act(1, x -> x.nextLong(0)).tells("2", x -> x.slotText(0)).with(x -> x.squeeze());
        p.act(1, x -> x.longAt(0, 0)).tells("3", x -> x.slotText(0)).act(1, x -> x.longAt(1, 0));
        p.tells("4", x -> x.slotText(0)).act(0, x -> x.longAt(2, 0)).with(x -> x.put(1, 4)).with(x -> x.pass(1, 2));
        p.act(1, x -> x.longAt(2, 0)).tells("5", x -> x.slotText(0)).tells(1, x -> x.lens(0, 0));
    }

    private static void shelfChangesTheCells() {
        Probe p = Told.fourths("lens 1 over the shelf").with(x -> x.lensCut(1, 20, 4)).with(x -> x.lensMake(1, 2));
        p.act(0, x -> x.shortAt(0)).with(x -> x.lay(5, 0x00050006, 0x00070008)).act(5, x -> x.nextShort());
        p.with(x -> x.layFourth(5, 1, -6)).act(-6, x -> x.nextShort()).tells(2, x -> x.lens(1, 3));
        p.with(x -> x.put(0, 1)).with(x -> x.take(0, 5)).act(-3, x -> x.shortAt(2)).act(-3, x -> x.nextShort());
        p.with(x -> x.pourAll(0, 0)).with(x -> x.turn()).with(x -> x.drawAll(5)).act(4, x -> x.nextShort());
        p.with(x -> x.nextLong(5)).act(-4, x -> x.shortAt(3)).with(x -> x.longAt(14, 5)).act(0, x -> x.shortAt(3));
        p.with(x -> x.put(2, 0)).with(x -> x.look(2, 0, 5)).act(1, x -> x.shortAt(0));
    }

    private static void lensChangesTheShelf() {
        Probe p = Told.fourths("lens 1 writes the shelf").with(x -> x.lensCut(1, 4, 4)).act(1, x -> x.putNext(0));
        p.act(1, x -> x.putNext(0)).act(1, x -> x.putNext(0)).act(1, x -> x.putNext(7))
                .refused(Probe.FULL, x -> x.putNext(8));
        p.tells("7", x -> x.slotText(1)).tells(7, x -> x.lower(1)).with(x -> x.put(0, 1))
                .tells("7", x -> x.queueText(0));
        p.act(1, x -> x.putAt(0, -32768)).tells("-9223372036854775801", x -> x.slotText(1))
                .tells("7", x -> x.queueText(0));
        p.act(1, x -> x.pour(1, 0)).tells("-32768", x -> x.pipeText()).tells("281483566841860", x -> x.slotText(0));
        p.tells("0", x -> x.slotText(2)).act(0, x -> x.putAt(1, 0)).act(0, x -> x.putAt(3, 7));
    }

    /** What is read comes into the cells that the other lens stands on. */
    private static void lensReadsIntoItsOwnCells() {
        Probe p = Told.numbered("lens 0 reads, lens 1 sees it").with(x -> x.put(0, 5)).with(x -> x.lensCut(1, 0, 4));
        p.act(0, x -> x.nextShort()).act(1, x -> x.shortAt(3)).act(1, x -> x.nextLong(0)).act(6, x -> x.shortAt(3));
        p.tells(1, x -> x.lens(1, 0)).tells(2, x -> x.lens(0, 0));
    }

    private static void leastAndGreatest() {
        Probe p = new Probe("promises 43 to 46, the least and the greatest").act(1, x -> x.putNext(-32768));
        p.act(1, x -> x.putNext(32767)).act(1, x -> x.putAt(2, 32767)).act(1, x -> x.putAt(2, -32768));
        p.act(22, x -> x.lensPlace(1, 2)).act(0, x -> x.putNext(-32768)).act(0, x -> x.putNext(0));
        p.act(1, x -> x.putAt(23, -1)).act(-1, x -> x.shortAt(23)).act(-32768, x -> x.shortAt(0));
        p.act(32767, x -> x.shortAt(1)).with(x -> x.lensTurn(1, 2)).act(-32768, x -> x.nextShort());
        p.act(32767, x -> x.nextShort()).act(-32768, x -> x.nextShort()).act(0, x -> x.nextShort());
        p.tells(0x80007FFF, x -> x.upper(0)).tells(0x80000000, x -> x.lower(0)).tells(65535, x -> x.lower(5));
        Probe longs = new Probe("promises 41 and 42, the least and the greatest").with(x -> x.lay(0, MIN, 0));
        longs.with(x -> x.lay(1, MAX, -1)).with(x -> x.put(0, 0)).with(x -> x.put(0, 1)).act(1, x -> x.nextLong(5));
        longs.tells("-9223372036854775808", x -> x.slotText(5)).act(4, x -> x.nextLong(5));
        longs.tells("9223372036854775807", x -> x.slotText(5)).act(4, x -> x.longAt(1, 5)).act(4, x -> x.longAt(2, 5));
    }
}
