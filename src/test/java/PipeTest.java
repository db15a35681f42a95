/** Promises 25 to 34: the pipe. */
public final class PipeTest {
    public static void main(String[] args) {
        pour();
        pourAll();
        draw();
        drawAll();
        turnAndAgain();
        marks();
        tellers();
        Probe.end();
    }

    private static void pour() {
        Probe p = Told.fourths("promise 25");
        p.act(1, x -> x.pour(0, 3)).act(2, x -> x.pour(1, 0)).tells("4 -1", x -> x.pipeText());
        for (int i = 3; i <= 10; i++) {
            int place = i;
            p.act(place, x -> x.pour(0, place % 4));
        }
        p.refused(Probe.FULL, x -> x.pour(0, 0)).tells("4 -1 4 1 2 3 4 1 2 3", x -> x.pipeText());
        p.thrown(Probe.INDEX, x -> x.pour(6, 4)).thrown(Probe.INDEX, x -> x.pour(-1, 0));
        p.thrown(Probe.ARGUMENT, x -> x.pour(0, 4)).thrown(Probe.ARGUMENT, x -> x.pour(0, -1));
        p.with(x -> x.turn());
        p.thrown(Probe.STATE, x -> x.pour(0, 0)).thrown(Probe.ARGUMENT, x -> x.pour(0, 4));
        p.thrown(Probe.INDEX, x -> x.pour(6, 0));
    }

    private static void pourAll() {
        Probe p = Told.fourths("promise 26");
        p.act(4, x -> x.pourAll(0, 0)).act(1, x -> x.pourAll(1, 3)).act(2, x -> x.pourAll(1, 2));
        p.tells("1 2 3 4 -4 -3 -4", x -> x.pipeText());
        p.act(3, x -> x.pourAll(0, 0)).tells("1 2 3 4 -4 -3 -4 1 2 3", x -> x.pipeText());
        p.act(0, x -> x.pourAll(0, 0)).act(0, x -> x.pourAll(0, 3));
        p.thrown(Probe.INDEX, x -> x.pourAll(6, 4)).thrown(Probe.INDEX, x -> x.pourAll(-1, 0));
        p.thrown(Probe.ARGUMENT, x -> x.pourAll(0, 4)).thrown(Probe.ARGUMENT, x -> x.pourAll(0, -1));
        p.with(x -> x.turn());
        p.thrown(Probe.STATE, x -> x.pourAll(0, 0)).thrown(Probe.ARGUMENT, x -> x.pourAll(0, 4));
        p.thrown(Probe.INDEX, x -> x.pourAll(6, 0));
    }

    private static void draw() {
        Probe p = Told.fourths("promise 27");
        p.thrown(Probe.STATE, x -> x.draw());
        p.with(x -> x.lay(2, 0x80007FFF, 0)).with(x -> x.pour(1, 1)).with(x -> x.pourAll(2, 0));
        p.thrown(Probe.STATE, x -> x.draw());
        p.act(5, x -> x.turn()).act(-2, x -> x.draw()).act(-32768, x -> x.draw()).act(32767, x -> x.draw());
        p.tells("0 0", x -> x.pipeText()).act(0, x -> x.draw()).act(0, x -> x.draw());
        p.refused(Probe.EMPTY, x -> x.draw()).refused(Probe.EMPTY, x -> x.draw());
    }

    private static void drawAll() {
        Probe p = Told.fourths("promise 28");
        p.thrown(Probe.STATE, x -> x.drawAll(0)).thrown(Probe.INDEX, x -> x.drawAll(6));
        p.with(x -> x.pourAll(0, 0)).with(x -> x.pourAll(1, 0)).with(x -> x.pour(0, 0)).with(x -> x.turn());
        p.with(x -> x.lay(5, 0x00010001, 0x00030003)).act(2, x -> x.drawAll(5));
        p.tells("281483566841860", x -> x.slotText(5)).tells("-1 -2 -3 -4 1", x -> x.pipeText());
        p.act(0, x -> x.drawAll(1)).refused(Probe.EMPTY, x -> x.drawAll(2)).tells(1, x -> x.pipe(2));
        p.thrown(Probe.INDEX, x -> x.drawAll(6)).thrown(Probe.INDEX, x -> x.drawAll(-1));
        p.act(9, x -> x.again()).act(4, x -> x.drawAll(2)).act(-1, x -> x.draw()).act(-2, x -> x.draw());
        p.refused(Probe.EMPTY, x -> x.drawAll(3)).act(-3, x -> x.draw());
        p.refused(Probe.EMPTY, x -> x.drawAll(3)).tells("0", x -> x.slotText(3));
        p.with(x -> x.again()).with(x -> x.draw()).act(4, x -> x.drawAll(3)).act(4, x -> x.drawAll(3));
        p.tells("-281483566907391", x -> x.slotText(3));
    }

    private static void turnAndAgain() {
        Probe p = Told.fourths("promises 29 and 30");
        p.act(0, x -> x.turn()).act(0, x -> x.again()).act(10, x -> x.turn());
        p.with(x -> x.pourAll(0, 0)).with(x -> x.pipeMark()).with(x -> x.pourAll(1, 0));
        Told.pipe(p, 8, 10, 2, 10, 4, 0, 1, 8);
        p.act(8, x -> x.turn());
        Told.pipe(p, 0, 8, 8, 10, -1, 1, 1, 8);
        p.with(x -> x.draw()).with(x -> x.pipeMark()).with(x -> x.drawAll(5));
        p.act(8, x -> x.again());
        Told.pipe(p, 0, 8, 8, 10, -1, 1, 1, 8);
        p.with(x -> x.drawAll(5)).with(x -> x.pipeMark()).with(x -> x.draw()).act(7, x -> x.turn());
        Told.pipe(p, 3, 10, 7, 10, -1, 0, 1, 3);
        p.tells("-2 -3 -4", x -> x.pipeText()).with(x -> x.pipeMark()).act(10, x -> x.again());
        Told.pipe(p, 0, 10, 10, 10, -1, 0, 1, 0);
        p.tells("", x -> x.pipeText()).act(1, x -> x.pour(0, 0)).tells("1", x -> x.pipeText());
        p.act(1, x -> x.turn()).act(1, x -> x.draw()).refused(Probe.EMPTY, x -> x.draw()).act(10, x -> x.turn());
    }

    private static void marks() {
        Probe p = Told.fourths("promises 31 and 32");
        p.refused(Probe.UNMARKED, x -> x.pipeBack()).act(0, x -> x.pipeMark()).act(0, x -> x.pipeBack());
        p.with(x -> x.pourAll(0, 0)).act(4, x -> x.pipeMark()).with(x -> x.pourAll(1, 1));
        p.act(4, x -> x.pipeBack()).tells("1 2 3 4", x -> x.pipeText()).tells(4, x -> x.pipe(4));
        p.act(5, x -> x.pour(1, 3)).act(4, x -> x.pipeBack()).act(5, x -> x.pour(1, 3)).with(x -> x.turn());
        p.refused(Probe.UNMARKED, x -> x.pipeBack()).with(x -> x.draw()).act(1, x -> x.pipeMark());
        p.with(x -> x.drawAll(5)).refused(Probe.EMPTY, x -> x.draw());
        p.act(1, x -> x.pipeBack()).tells("2 3 4 -4", x -> x.pipeText());
        p.with(x -> x.again()).refused(Probe.UNMARKED, x -> x.pipeBack());
    }

    private static void tellers() {
        Probe p = Told.fourths("promises 33 and 34");
        p.tells("", x -> x.pipeText()).with(x -> x.lay(2, 0x8000, 0x7FFF0000)).with(x -> x.pourAll(2, 0));
        p.tells("0 -32768 32767 0", x -> x.pipeText());
        Told.pipe(p, 4, 10, 6, 10, -1, 0, 1, 4);
        p.with(x -> x.turn()).with(x -> x.draw()).with(x -> x.draw()).with(x -> x.pipeMark()).with(x -> x.draw());
        Told.pipe(p, 3, 4, 1, 10, 2, 1, 1, 1);
        p.tells("0", x -> x.pipeText()).with(x -> x.draw()).tells("", x -> x.pipeText());
        p.thrown(Probe.ARGUMENT, x -> x.pipe(8)).thrown(Probe.ARGUMENT, x -> x.pipe(-1));
        p.thrown(Probe.ARGUMENT, x -> x.pipe(Integer.MIN_VALUE));
    }
}
