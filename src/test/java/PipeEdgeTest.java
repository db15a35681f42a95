/** The pipe empty, full and between, filling and draining, with a mark and without one. */
public final class PipeEdgeTest {
    public static void main(String[] args) {
        emptyFilling();
        emptyDraining();
        fullFilling();
        fullDraining();
        oneByOne();
        pourAllIntoTheLast();
        drawAllOfTheLast();
        turnedBackWithNoneDrawn();
        turnedBackWithSomeDrawn();
        turnedBackWithAllDrawn();
        againFilling();
        againDraining();
        againAfterATurnTakesThatTurn();
        markFilling();
        markDraining();
        markAtTheEnds();
        turnTakesTheMark();
        edgesOfFourths();
        cellsOfThePipe();
        Probe.end();
    }

    /** So many of 1 to 4, -1 to -4, 1, 2 poured. */
    private static Probe filled(String about, int many) {
        Probe p = Told.fourths(about);
        for (int i = 0; i < many; i++) {
            int k = i;
            p.with(x -> x.pour(k / 4 % 2, k % 4));
        }
        return p;
    }

    private static Probe draw(Probe p, int many) {
        for (int i = 0; i < many; i++) {
            p.with(x -> x.draw());
        }
        return p;
    }

    private static void emptyFilling() {
        Probe p = Told.fourths("section 5, empty and filling");
        Told.pipe(p, 0, 10, 10, 10, -1, 0, 1, 0);
        p.tells("", x -> x.pipeText()).thrown(Probe.STATE, x -> x.draw()).thrown(Probe.STATE, x -> x.drawAll(0));
        p.actWithoutChange(10, x -> x.again()).refused(Probe.UNMARKED, x -> x.pipeBack());
    }

    private static void emptyDraining() {
        Probe p = Told.fourths("section 5, empty and draining").act(0, x -> x.turn());
        Told.pipe(p, 0, 0, 0, 10, -1, 1, 1, 0);
        p.tells("", x -> x.pipeText()).refused(Probe.EMPTY, x -> x.draw()).refused(Probe.EMPTY, x -> x.drawAll(0));
        p.thrown(Probe.STATE, x -> x.pour(0, 0)).thrown(Probe.STATE, x -> x.pourAll(0, 0));
        p.actWithoutChange(0, x -> x.again()).refused(Probe.UNMARKED, x -> x.pipeBack());
        p.branch("promise 31, empty and draining").act(0, x -> x.pipeMark()).actWithoutChange(0, x -> x.pipeBack());
        p.act(10, x -> x.turn());
        Told.pipe(p, 0, 10, 10, 10, -1, 0, 1, 0);
    }

    private static void fullFilling() {
        Probe p = filled("section 5, full and filling", 10);
        Told.pipe(p, 10, 10, 0, 10, -1, 0, 1, 10);
        p.tells("1 2 3 4 -1 -2 -3 -4 1 2", x -> x.pipeText());
        p.refused(Probe.FULL, x -> x.pour(0, 0)).actWithoutChange(0, x -> x.pourAll(0, 0));
        p.thrown(Probe.STATE, x -> x.draw()).thrown(Probe.STATE, x -> x.drawAll(0));
    }

    private static void fullDraining() {
        Probe p = filled("section 5, full and draining", 10).act(10, x -> x.turn());
        Told.pipe(p, 0, 10, 10, 10, -1, 1, 1, 10);
        p.tells("1 2 3 4 -1 -2 -3 -4 1 2", x -> x.pipeText());
        p.thrown(Probe.STATE, x -> x.pour(0, 0)).thrown(Probe.STATE, x -> x.pourAll(0, 0));
        int[] wants = {1, 2, 3, 4, -1, -2, -3, -4, 1, 2};
        for (int want : wants) {
            p.act(want, x -> x.draw());
        }
        Told.pipe(p, 10, 10, 0, 10, -1, 1, 1, 0);
        p.tells("", x -> x.pipeText()).refused(Probe.EMPTY, x -> x.draw()).refused(Probe.EMPTY, x -> x.drawAll(0));
    }

    private static void oneByOne() {
        for (int i = 1; i < 10; i++) {
            int many = i;
            Probe p = filled("section 5, with " + many, many);
            Told.pipe(p, many, 10, 10 - many, 10, -1, 0, 1, many);
            p.act(many, x -> x.turn());
            Told.pipe(p, 0, many, many, 10, -1, 1, 1, many);
            p.act(1, x -> x.draw());
            Told.pipe(p, 1, many, many - 1, 10, -1, 1, 1, many - 1);
        }
    }

    /** Of each fourth on, with each number of cells that are left. */
    private static void pourAllIntoTheLast() {
        for (int lies = 5; lies <= 10; lies++) {
            for (int k = 0; k < 4; k++) {
                int from = k;
                int many = Math.min(4 - from, 10 - lies);
                Probe p = filled("promise 26, from " + from + " behind " + lies, lies)
                        .act(many, x -> x.pourAll(1, from));
                p.tells(lies + many, x -> x.pipe(0)).tells(10 - lies - many, x -> x.pipe(2)).with(x -> x.turn());
                draw(p, lies);
                for (int i = 0; i < many; i++) {
                    p.act(-1 - from - i, x -> x.draw());
                }
                p.refused(Probe.EMPTY, x -> x.draw());
            }
        }
    }

    private static void drawAllOfTheLast() {
        Probe p = draw(filled("promise 28, the last four", 10).with(x -> x.turn()), 6).tells(4, x -> x.pipe(2));
        p.branch("promise 28, three are left").act(-3, x -> x.draw()).refused(Probe.EMPTY, x -> x.drawAll(5))
                .tells("-4 1 2", x -> x.pipeText());
        p.act(4, x -> x.drawAll(5)).tells(-3, x -> x.fourth(5, 0)).tells(2, x -> x.fourth(5, 3));
        Told.pipe(p, 10, 10, 0, 10, -1, 1, 1, 0);
        p.with(x -> x.again()).act(0, x -> x.drawAll(0)).act(0, x -> x.drawAll(1));
        p.refused(Probe.EMPTY, x -> x.drawAll(2)).tells(2, x -> x.pipe(2));
    }

    private static void turnedBackWithNoneDrawn() {
        Probe p = filled("promise 29, none drawn", 10).with(x -> x.turn()).act(0, x -> x.turn());
        Told.pipe(p, 10, 10, 0, 10, -1, 0, 1, 10);
        p.tells("1 2 3 4 -1 -2 -3 -4 1 2", x -> x.pipeText()).refused(Probe.FULL, x -> x.pour(0, 0));
    }

    private static void turnedBackWithSomeDrawn() {
        Probe p = draw(filled("promise 29, some drawn", 10).with(x -> x.turn()), 3).act(3, x -> x.turn());
        Told.pipe(p, 7, 10, 3, 10, -1, 0, 1, 7);
        p.tells("4 -1 -2 -3 -4 1 2", x -> x.pipeText()).act(3, x -> x.pourAll(0, 0)).act(10, x -> x.turn());
        p.tells("4 -1 -2 -3 -4 1 2 1 2 3", x -> x.pipeText());
    }

    private static void turnedBackWithAllDrawn() {
        Probe p = draw(filled("promise 29, all drawn", 4).with(x -> x.turn()), 4).act(10, x -> x.turn());
        Told.pipe(p, 0, 10, 10, 10, -1, 0, 1, 0);
        p.tells("", x -> x.pipeText()).act(0, x -> x.turn()).refused(Probe.EMPTY, x -> x.draw());
    }

    private static void againFilling() {
        Probe p = filled("promise 30, filling", 10).act(10, x -> x.again());
        Told.pipe(p, 0, 10, 10, 10, -1, 0, 1, 0);
        p.tells("", x -> x.pipeText()).act(1, x -> x.pour(1, 3)).tells("-4", x -> x.pipeText());
        p.act(1, x -> x.turn()).act(-4, x -> x.draw()).refused(Probe.EMPTY, x -> x.draw());
    }

    private static void againDraining() {
        Probe p = draw(filled("promise 30, draining", 5).with(x -> x.turn()), 5).act(5, x -> x.again());
        Told.pipe(p, 0, 5, 5, 10, -1, 1, 1, 5);
        p.tells("1 2 3 4 -1", x -> x.pipeText()).act(1, x -> x.draw());
    }

    /** What was drawn ahead of the last turn does not come again. */
    private static void againAfterATurnTakesThatTurn() {
        Probe p = draw(filled("promise 30, all since the last turn", 5).with(x -> x.turn()), 2).with(x -> x.turn());
        draw(p.with(x -> x.turn()), 2).tells("-1", x -> x.pipeText()).act(3, x -> x.again());
        p.tells("3 4 -1", x -> x.pipeText());
    }

    private static void markFilling() {
        Probe p = filled("promise 32, filling", 3).act(3, x -> x.pipeMark());
        p.act(4, x -> x.pourAll(1, 0)).act(3, x -> x.pipeBack());
        Told.pipe(p, 3, 10, 7, 10, 3, 0, 1, 3);
        p.tells("1 2 3", x -> x.pipeText()).actWithoutChange(3, x -> x.pipeBack()).act(4, x -> x.pour(1, 3));
        p.act(3, x -> x.pipeBack()).act(4, x -> x.pour(1, 2)).tells("1 2 3 -3", x -> x.pipeText());
        p.act(4, x -> x.pipeMark()).act(5, x -> x.pour(0, 0)).act(4, x -> x.pipeBack()).act(10, x -> x.again());
        p.refused(Probe.UNMARKED, x -> x.pipeBack()).tells(-1, x -> x.pipe(4));
    }

    private static void markDraining() {
        Probe p = draw(filled("promise 32, draining", 6).with(x -> x.turn()), 1).act(1, x -> x.pipeMark());
        p.act(4, x -> x.drawAll(5)).tells("-2", x -> x.pipeText()).act(1, x -> x.pipeBack());
        Told.pipe(p, 1, 6, 5, 10, 1, 1, 1, 5);
        p.tells("2 3 4 -1 -2", x -> x.pipeText()).actWithoutChange(1, x -> x.pipeBack()).act(2, x -> x.draw());
        p.act(1, x -> x.pipeBack()).act(6, x -> x.again()).refused(Probe.UNMARKED, x -> x.pipeBack());
        p.tells(-1, x -> x.pipe(4));
    }

    private static void markAtTheEnds() {
        Probe full = filled("promise 31, full and filling", 10).act(10, x -> x.pipeMark());
        full.tells(10, x -> x.pipe(4)).actWithoutChange(10, x -> x.pipeBack()).refused(Probe.FULL, x -> x.pour(0, 0));
        Probe drawn = draw(filled("promise 31, all drawn", 3).with(x -> x.turn()), 3).act(3, x -> x.pipeMark());
        drawn.tells(3, x -> x.pipe(4)).actWithoutChange(3, x -> x.pipeBack()).refused(Probe.EMPTY, x -> x.draw());
        Probe start = Told.fourths("promise 31, empty and filling").act(0, x -> x.pipeMark())
                .with(x -> x.pourAll(0, 0));
        start.act(0, x -> x.pipeBack()).tells("", x -> x.pipeText()).tells(0, x -> x.pipe(4));
    }

    private static void turnTakesTheMark() {
        Probe p = filled("promise 29, a mark of the filling pipe", 4).with(x -> x.pipeMark()).act(4, x -> x.turn());
        p.tells(-1, x -> x.pipe(4)).refused(Probe.UNMARKED, x -> x.pipeBack());
        p.with(x -> x.draw()).act(1, x -> x.pipeMark()).act(7, x -> x.turn());
        p.tells(-1, x -> x.pipe(4)).refused(Probe.UNMARKED, x -> x.pipeBack());
    }

    private static void edgesOfFourths() {
        Probe p = new Probe("promises 25 to 28 and 34, the least and the greatest")
                .with(x -> x.lay(0, 0x80007FFF, 0xFFFF0000));
        p.with(x -> x.pourAll(0, 0)).tells("-32768 32767 -1 0", x -> x.pipeText()).with(x -> x.pourAll(0, 0));
        p.act(8, x -> x.turn()).act(-32768, x -> x.draw()).act(32767, x -> x.draw()).act(-1, x -> x.draw());
        p.act(0, x -> x.draw()).act(3, x -> x.drawAll(1)).tells(0x80007FFF, x -> x.upper(1))
                .tells(0xFFFF0000, x -> x.lower(1));
    }

    /** A full pipe leaves the shelf behind it as it was, and the shelf leaves the pipe. */
    private static void cellsOfThePipe() {
        Probe p = filled("section 3, the cells of the pipe", 10).tells("281483566841860", x -> x.slotText(0));
        p.with(x -> x.lay(0, 0, 0)).tells("1 2 3 4 -1 -2 -3 -4 1 2", x -> x.pipeText());
        p.act(10, x -> x.turn()).act(1, x -> x.draw()).act(0, x -> x.shortAt(0));
    }
}
