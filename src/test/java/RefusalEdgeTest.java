/**
 * Each refusal of each promise by its number: that it is counted once a call, that nothing else is changed, what goes
 * ahead of it, and where it begins (beside the nearest call that is done).
 */
public final class RefusalEdgeTest {
    private static final int MIN = Integer.MIN_VALUE;
    private static final int MAX = Integer.MAX_VALUE;
    private static final int[] SIZES = {5, 3, 6};

    public static void main(String[] args) {
        numbers();
        putIntoFull();
        takeFromEmpty();
        lookAndMendBeyond();
        backAndForgetUnmarked();
        pokeSealed();
        pourIntoFull();
        drawFromEmpty();
        drawAllOfTooFew();
        pipeBackUnmarked();
        lensPlaceUnfit();
        lensLimitUnfit();
        lensTurnUnmarkedOrSealed();
        lensCutBeyond();
        longsEmptyOrBeyond();
        shortsEmptyOrBeyond();
        putNextSealedBeforeFull();
        putAtBeyondBeforeSealed();
        doneThoughAllStays();
        Probe.end();
    }

    private static void numbers() {
        Sluiceshelf x = new Sluiceshelf();
        x.lensLimit(1, 0);
        Probe.due("FULL", x.putNext(1), -70001);
        Probe.due("EMPTY", x.take(0, 0), -70002);
        Probe.due("UNMARKED", x.pipeBack(), -70003);
        Probe.due("SEALED", x.poke(0, 0), -70004);
        Probe.due("BEYOND", x.shortAt(24), -70005);
        Probe.due("UNFIT", x.lensPlace(0, 16), -70006);
        int[] counted = {1, 1, 1, 1, 1, 1, 1, 0};
        for (int what = 0; what < counted.length; what++) {
            Probe.due("house(" + what + ")", x.house(what), counted[what]);
        }
    }

    private static Probe withFull(String about, int queue) {
        Probe p = Told.numbered(about);
        for (int i = 0; i < SIZES[queue]; i++) {
            int slot = i;
            p.act(i + 1, x -> x.put(queue, slot));
        }
        return p;
    }

    private static void putIntoFull() {
        for (int i = 0; i < 3; i++) {
            int queue = i;
            Probe p = withFull("promise 8, FULL, queue " + queue, queue);
            p.refused(Probe.FULL, x -> x.put(queue, 0)).refused(Probe.FULL, x -> x.put(queue, 5));
            p.thrown(Probe.INDEX, x -> x.put(queue, 6)).thrown(Probe.INDEX, x -> x.put(queue, -1));
        }
    }

    private static void takeFromEmpty() {
        for (int i = 0; i < 3; i++) {
            int queue = i;
            Probe p = Told.numbered("promise 9, EMPTY, queue " + queue);
            p.refused(Probe.EMPTY, x -> x.take(queue, 0)).refused(Probe.EMPTY, x -> x.take(queue, 5));
            p.thrown(Probe.INDEX, x -> x.take(queue, 6)).thrown(Probe.INDEX, x -> x.take(queue, -1));
            p.with(x -> x.put(queue, 0)).act(0, x -> x.take(queue, 1)).refused(Probe.EMPTY, x -> x.take(queue, 2));
        }
    }

    private static void lookAndMendBeyond() {
        for (int i = 0; i < 3; i++) {
            int queue = i;
            int size = SIZES[i];
            Probe p = Told.numbered("promises 10 and 11, BEYOND, queue " + queue);
            p.refused(Probe.BEYOND, x -> x.look(queue, 0, 0)).refused(Probe.BEYOND, x -> x.mend(queue, 0, 0));
            p.thrown(Probe.INDEX, x -> x.look(queue, 0, 6)).thrown(Probe.INDEX, x -> x.mend(queue, 0, 6));
            p.thrown(Probe.ARGUMENT, x -> x.look(queue, 10, 0)).thrown(Probe.ARGUMENT, x -> x.mend(queue, 10, 0));
            Probe full = withFull("promises 10 and 11, BEYOND the last, queue " + queue, queue);
            full.actWithoutChange(0, x -> x.look(queue, size - 1, size - 1));
            full.actWithoutChange(0, x -> x.mend(queue, size - 1, size - 1));
            full.refused(Probe.BEYOND, x -> x.look(queue, size, 0)).refused(Probe.BEYOND, x -> x.mend(queue, size, 0));
            full.refused(Probe.BEYOND, x -> x.look(queue, 9, 0)).refused(Probe.BEYOND, x -> x.mend(queue, 9, 0));
        }
    }

    private static void backAndForgetUnmarked() {
        for (int i = 0; i < 3; i++) {
            int queue = i;
            Probe p = Told.numbered("promises 13 and 14, UNMARKED, queue " + queue);
            p.refused(Probe.UNMARKED, x -> x.back(queue)).refused(Probe.UNMARKED, x -> x.back(queue));
            p.refused(Probe.UNMARKED, x -> x.forget(queue)).refused(Probe.UNMARKED, x -> x.forget(queue));
            p.thrown(Probe.INDEX, x -> x.back(3)).thrown(Probe.INDEX, x -> x.forget(-1));
            p.act(0, x -> x.mark(queue)).actWithoutChange(0, x -> x.back(queue)).act(0, x -> x.forget(queue));
            p.refused(Probe.UNMARKED, x -> x.back(queue)).refused(Probe.UNMARKED, x -> x.forget(queue));
        }
    }

    private static void pokeSealed() {
        for (int i = 0; i < 12; i++) {
            int queue = i / 4;
            int how = i % 4;
            Probe p = withFull("promise 18, SEALED, queue " + queue + ", how " + how, queue);
            p.with(x -> x.take(queue, 5)).with(x -> x.mark(queue));
            p.refused(Probe.SEALED, x -> x.poke(queue, how)).refused(Probe.SEALED, x -> x.poke(queue, how));
            p.thrown(Probe.ARGUMENT, x -> x.poke(queue, 4)).thrown(Probe.ARGUMENT, x -> x.poke(queue, -1));
            p.with(x -> x.empty(queue)).refused(Probe.SEALED, x -> x.poke(queue, how));
        }
    }

    private static Probe fullPipe(String about) {
        return Told.fourths(about).with(x -> x.pourAll(0, 0)).with(x -> x.pourAll(1, 0)).with(x -> x.pour(0, 0));
    }

    private static void pourIntoFull() {
        Probe p = fullPipe("promise 25, FULL").act(10, x -> x.pour(0, 1));
        p.refused(Probe.FULL, x -> x.pour(0, 0)).refused(Probe.FULL, x -> x.pour(5, 3));
        p.thrown(Probe.INDEX, x -> x.pour(6, 0)).thrown(Probe.ARGUMENT, x -> x.pour(0, 4));
        p.with(x -> x.turn()).thrown(Probe.STATE, x -> x.pour(0, 0));
    }

    private static void drawFromEmpty() {
        Probe p = Told.fourths("promise 27, EMPTY").thrown(Probe.STATE, x -> x.draw()).with(x -> x.turn());
        p.refused(Probe.EMPTY, x -> x.draw()).refused(Probe.EMPTY, x -> x.draw()).with(x -> x.turn());
        p.thrown(Probe.STATE, x -> x.draw()).with(x -> x.pour(0, 0)).with(x -> x.turn()).act(1, x -> x.draw());
        p.refused(Probe.EMPTY, x -> x.draw());
    }

    /** 0 to 3 are too few, 4 are enough; what is refused draws none of them. */
    private static void drawAllOfTooFew() {
        for (int i = 0; i <= 4; i++) {
            int many = i;
            Probe p = Told.fourths("promise 28, RESTS " + many);
            for (int k = 0; k < many; k++) {
                int fourth = k;
                p.with(x -> x.pour(1, fourth));
            }
            p.thrown(Probe.STATE, x -> x.drawAll(5)).act(many, x -> x.turn());
            if (many < 4) {
                p.refused(Probe.EMPTY, x -> x.drawAll(5)).refused(Probe.EMPTY, x -> x.drawAll(5));
            } else {
                p.act(4, x -> x.drawAll(5)).tells("-4295098372", x -> x.slotText(5));
                p.refused(Probe.EMPTY, x -> x.drawAll(5));
            }
            p.thrown(Probe.INDEX, x -> x.drawAll(6)).thrown(Probe.INDEX, x -> x.drawAll(-1));
        }
    }

    private static void pipeBackUnmarked() {
        Probe p = fullPipe("promise 32, UNMARKED");
        p.refused(Probe.UNMARKED, x -> x.pipeBack()).refused(Probe.UNMARKED, x -> x.pipeBack()).with(x -> x.turn());
        p.refused(Probe.UNMARKED, x -> x.pipeBack()).act(0, x -> x.pipeMark()).actWithoutChange(0, x -> x.pipeBack());
    }

    private static void lensPlaceUnfit() {
        for (int i = 0; i < 2; i++) {
            int lens = i;
            Probe p = new Probe("promise 35, UNFIT, lens " + lens).with(x -> x.lensLimit(lens, 7));
            for (int wrong : new int[] {-1, 8, 16, MIN, MAX}) {
                p.refused(Probe.UNFIT, x -> x.lensPlace(lens, wrong));
                p.thrown(Probe.INDEX, x -> x.lensPlace(2, wrong)).thrown(Probe.INDEX, x -> x.lensPlace(-1, wrong));
            }
            p.act(0, x -> x.lensPlace(lens, 7)).act(7, x -> x.lensPlace(lens, 0));
        }
    }

    private static void lensLimitUnfit() {
        for (int i = 0; i < 2; i++) {
            int lens = i;
            int size = i == 0 ? 16 : 24;
            Probe p = new Probe("promise 36, UNFIT, lens " + lens).with(x -> x.lensTurn(lens, 0));
            for (int wrong : new int[] {-1, size + 1, MIN, MAX}) {
                p.refused(Probe.UNFIT, x -> x.lensLimit(lens, wrong));
                p.thrown(Probe.INDEX, x -> x.lensLimit(2, wrong)).thrown(Probe.INDEX, x -> x.lensLimit(-1, wrong));
            }
            p.act(0, x -> x.lensLimit(lens, 0)).act(size, x -> x.lensLimit(lens, size));
        }
    }

    private static void lensTurnUnmarkedOrSealed() {
        Probe p = new Probe("promise 37, UNMARKED and SEALED");
        p.refused(Probe.UNMARKED, x -> x.lensTurn(0, 4)).refused(Probe.UNMARKED, x -> x.lensTurn(1, 4));
        p.refused(Probe.SEALED, x -> x.lensTurn(0, 5)).refused(Probe.SEALED, x -> x.lensTurn(0, 5));
        p.thrown(Probe.ARGUMENT, x -> x.lensTurn(0, 6)).thrown(Probe.INDEX, x -> x.lensTurn(2, 5));
        p.act(0, x -> x.lensPlace(1, 24)).act(0, x -> x.lensTurn(1, 5)).with(x -> x.lensMake(1, 2));
        p.refused(Probe.SEALED, x -> x.lensTurn(1, 5)).refused(Probe.UNMARKED, x -> x.lensTurn(1, 4));
        p.act(0, x -> x.lensTurn(1, 3)).act(0, x -> x.lensTurn(1, 4)).refused(Probe.SEALED, x -> x.lensTurn(1, 5));
    }

    private static void lensCutBeyond() {
        for (int i = 0; i < 2; i++) {
            int lens = i;
            Probe p = new Probe("promise 39, BEYOND, lens " + lens).with(x -> x.lensLimit(lens, 7));
            int[][] wrong = {{-1, 0}, {-1, 1}, {8, 0}, {8, -1}, {0, 8}, {0, -1}, {7, 1}, {7, -1}, {3, 5}, {3, -1},
                {MIN, 0}, {MAX, 0}, {0, MIN}, {0, MAX}, {7, MAX}, {MIN, MIN}, {MAX, MAX}, {MIN, MAX}, {MAX, MIN}};
            for (int[] a : wrong) {
                p.refused(Probe.BEYOND, x -> x.lensCut(lens, a[0], a[1]));
                p.thrown(Probe.INDEX, x -> x.lensCut(2, a[0], a[1]))
                        .thrown(Probe.INDEX, x -> x.lensCut(-1, a[0], a[1]));
            }
            int[][] right = {{0, 0}, {0, 7}, {3, 4}, {3, 0}, {7, 0}};
            for (int[] a : right) {
                p.branch("promise 39, let, lens " + lens).act(a[1], x -> x.lensCut(lens, a[0], a[1]));
            }
        }
    }

    private static void longsEmptyOrBeyond() {
        Probe p = Told.numbered("promises 41 and 42").with(x -> x.lensLimit(0, 3)).with(x -> x.lensPlace(0, 2));
        p.act(1, x -> x.nextLong(0)).refused(Probe.EMPTY, x -> x.nextLong(1)).refused(Probe.EMPTY, x -> x.nextLong(1));
        p.thrown(Probe.INDEX, x -> x.nextLong(6)).thrown(Probe.INDEX, x -> x.nextLong(-1));
        for (int wrong : new int[] {-1, 3, 15, 16, MIN, MAX}) {
            p.refused(Probe.BEYOND, x -> x.longAt(wrong, 2)).thrown(Probe.INDEX, x -> x.longAt(wrong, 6));
        }
        p.act(1, x -> x.longAt(2, 2)).act(1, x -> x.longAt(0, 3));
    }

    private static void shortsEmptyOrBeyond() {
        Probe p = Told.fourths("promises 43 and 44").with(x -> x.lensLimit(1, 3)).with(x -> x.lensPlace(1, 2));
        p.act(3, x -> x.nextShort()).refused(Probe.EMPTY, x -> x.nextShort()).refused(Probe.EMPTY, x -> x.nextShort());
        for (int wrong : new int[] {-1, 3, 23, 24, MIN, MAX}) {
            p.refused(Probe.BEYOND, x -> x.shortAt(wrong));
        }
        p.actWithoutChange(3, x -> x.shortAt(2)).actWithoutChange(1, x -> x.shortAt(0));
    }

    private static void putNextSealedBeforeFull() {
        Probe p = Told.fourths("promise 45, FULL").with(x -> x.lensLimit(1, 3)).with(x -> x.lensPlace(1, 2));
        p.act(1, x -> x.putNext(9)).refused(Probe.FULL, x -> x.putNext(9)).refused(Probe.FULL, x -> x.putNext(8));
        p.thrown(Probe.ARGUMENT, x -> x.putNext(32768)).thrown(Probe.ARGUMENT, x -> x.putNext(-32769));
        Probe sealed = p.branch("promise 45, SEALED ahead of FULL").with(x -> x.lensMake(1, 2));
        sealed.refused(Probe.SEALED, x -> x.putNext(8)).refused(Probe.SEALED, x -> x.putNext(8));
        sealed.thrown(Probe.ARGUMENT, x -> x.putNext(32768)).thrown(Probe.ARGUMENT, x -> x.putNext(-32769));
        sealed.with(x -> x.lensPlace(1, 0)).refused(Probe.SEALED, x -> x.putNext(8));
    }

    private static void putAtBeyondBeforeSealed() {
        Probe p = Told.fourths("promise 46, BEYOND").with(x -> x.lensLimit(1, 3));
        Probe sealed = p.branch("promise 46, BEYOND ahead of SEALED").with(x -> x.lensMake(1, 2));
        for (int wrong : new int[] {-1, 3, 23, 24, MIN, MAX}) {
            p.refused(Probe.BEYOND, x -> x.putAt(wrong, 9)).thrown(Probe.ARGUMENT, x -> x.putAt(wrong, 32768));
            sealed.refused(Probe.BEYOND, x -> x.putAt(wrong, 9)).thrown(Probe.ARGUMENT, x -> x.putAt(wrong, -32769));
        }
        p.act(1, x -> x.putAt(2, 9)).act(1, x -> x.putAt(0, 9));
        sealed.refused(Probe.SEALED, x -> x.putAt(2, 9)).refused(Probe.SEALED, x -> x.putAt(0, 9));
        sealed.thrown(Probe.ARGUMENT, x -> x.putAt(0, 32768));
    }

    /** An act is counted as done also if all stays as it was, and where none of several could be done. */
    private static void doneThoughAllStays() {
        Probe p = new Probe("section 7, an act though all stays");
        p.actWithoutChange(0, x -> x.lay(0, 0, 0)).actWithoutChange(0, x -> x.layFourth(5, 3, 0));
        p.actWithoutChange(0, x -> x.squeeze()).actWithoutChange(0, x -> x.empty(0));
        p.actWithoutChange(0, x -> x.pass(0, 1)).actWithoutChange(0, x -> x.pass(2, 0));
        p.actWithoutChange(10, x -> x.again()).actWithoutChange(14, x -> x.lensPlace(0, 1));
        p.actWithoutChange(14, x -> x.lensLimit(0, 15)).actWithoutChange(0, x -> x.lensTurn(1, 0));
        p.actWithoutChange(24, x -> x.lensMake(1, 0)).actWithoutChange(24, x -> x.lensCut(1, 0, 24));
        p.actWithoutChange(0, x -> x.longAt(1, 0)).actWithoutChange(0, x -> x.shortAt(0));
        p.actWithoutChange(0, x -> x.putAt(0, 0));
        Probe full = fullPipe("promise 26, a full pipe").with(x -> x.pour(0, 0));
        full.actWithoutChange(0, x -> x.pourAll(0, 0)).actWithoutChange(0, x -> x.pourAll(0, 3));
        Probe into = withFull("promise 17, into a full queue", 1).with(x -> x.put(0, 0));
        into.actWithoutChange(0, x -> x.pass(0, 1));
    }
}
