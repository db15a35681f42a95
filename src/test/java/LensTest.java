/** Promises 35 to 46: the lenses. */
public final class LensTest {
    private static final int MIN = Integer.MIN_VALUE;
    private static final int MAX = Integer.MAX_VALUE;

    public static void main(String[] args) {
        setPlace();
        setLimit();
        turn();
        compacted();
        make();
        cut();
        tellers();
        longs();
        shorts();
        writes();
        seesTheQueues();
        Probe.end();
    }

    private static void setPlace() {
        Probe p = new Probe("promise 35");
        p.act(12, x -> x.lensPlace(0, 3)).with(x -> x.lensTurn(0, 3)).act(0, x -> x.lensPlace(0, 15));
        p.tells(3, x -> x.lens(0, 4)).act(12, x -> x.lensPlace(0, 3)).tells(3, x -> x.lens(0, 4));
        p.act(13, x -> x.lensPlace(0, 2)).tells(-1, x -> x.lens(0, 4)).act(15, x -> x.lensPlace(0, 0));
        p.refused(Probe.UNFIT, x -> x.lensPlace(0, 16)).refused(Probe.UNFIT, x -> x.lensPlace(0, -1));
        p.act(0, x -> x.lensPlace(1, 24)).refused(Probe.UNFIT, x -> x.lensPlace(1, 25));
        p.refused(Probe.UNFIT, x -> x.lensPlace(1, MIN)).refused(Probe.UNFIT, x -> x.lensPlace(1, MAX));
        p.thrown(Probe.INDEX, x -> x.lensPlace(2, -1)).thrown(Probe.INDEX, x -> x.lensPlace(-1, 0));
    }

    private static void setLimit() {
        Probe p = new Probe("promise 36");
        p.act(15, x -> x.lensLimit(0, 16)).refused(Probe.UNFIT, x -> x.lensLimit(0, 17));
        p.refused(Probe.UNFIT, x -> x.lensLimit(0, -1)).refused(Probe.UNFIT, x -> x.lensLimit(0, MIN));
        p.with(x -> x.lensPlace(0, 5)).with(x -> x.lensTurn(0, 3)).with(x -> x.lensPlace(0, 9));
        p.act(0, x -> x.lensLimit(0, 7));
        Told.lens(p, 0, 7, 7, 16, 0, 5, 1, 0, 0, -1);
        p.act(0, x -> x.lensLimit(0, 5)).tells(5, x -> x.lens(0, 4)).tells(5, x -> x.lens(0, 0));
        p.act(0, x -> x.lensLimit(0, 4));
        Told.lens(p, 0, 4, 4, 16, 0, -1);
        p.act(2, x -> x.lensLimit(0, 6)).act(0, x -> x.lensLimit(0, 0)).tells(0, x -> x.lens(0, 0));
        p.act(24, x -> x.lensLimit(1, 24)).refused(Probe.UNFIT, x -> x.lensLimit(1, 25));
        p.thrown(Probe.INDEX, x -> x.lensLimit(2, -1)).thrown(Probe.INDEX, x -> x.lensLimit(-1, 0));
    }

    private static void turn() {
        Probe p = new Probe("promise 37");
        p.refused(Probe.UNMARKED, x -> x.lensTurn(0, 4)).refused(Probe.SEALED, x -> x.lensTurn(0, 5));
        p.act(1, x -> x.lensTurn(0, 3)).with(x -> x.lensPlace(0, 4)).act(1, x -> x.lensTurn(0, 4));
        Told.lens(p, 0, 1, 15, 16, 14, 1);
        p.with(x -> x.lensPlace(0, 4)).act(0, x -> x.lensTurn(0, 1));
        Told.lens(p, 0, 0, 4, 16, 4, -1);
        p.with(x -> x.lensPlace(0, 3)).with(x -> x.lensTurn(0, 3)).act(0, x -> x.lensTurn(0, 2));
        Told.lens(p, 0, 0, 4, 16, 4, -1);
        p.with(x -> x.lensPlace(0, 2)).with(x -> x.lensTurn(0, 3)).act(0, x -> x.lensTurn(0, 0));
        Told.lens(p, 0, 0, 16, 16, 16, -1);
        p.refused(Probe.UNMARKED, x -> x.lensTurn(0, 4)).refused(Probe.UNMARKED, x -> x.lensTurn(1, 4));
        p.thrown(Probe.ARGUMENT, x -> x.lensTurn(0, 6)).thrown(Probe.ARGUMENT, x -> x.lensTurn(1, -1));
        p.thrown(Probe.INDEX, x -> x.lensTurn(2, 6)).thrown(Probe.INDEX, x -> x.lensTurn(-1, 0));
    }

    private static void compacted() {
        Probe p = new Probe("promise 37, compacted");
        for (int i = 0; i < 24; i++) {
            int k = i;
            p.with(x -> x.layFourth(k / 4, k % 4, k + 1));
        }
        p.with(x -> x.lensLimit(1, 7)).with(x -> x.lensPlace(1, 2)).with(x -> x.lensTurn(1, 3));
        p.act(5, x -> x.lensTurn(1, 5));
        Told.lens(p, 1, 5, 24, 24, 19, -1, 0, 1, 0, 11);
        int[] wants = {3, 4, 5, 6, 7, 6, 7, 8, 9};
        for (int i = 0; i < wants.length; i++) {
            int k = i;
            p.tells(wants[k], x -> x.fourth(k / 4, k % 4));
        }
        p.with(x -> x.lensCut(1, 20, 4)).with(x -> x.lensPlace(1, 1)).act(3, x -> x.lensTurn(1, 5));
        p.tells(20, x -> x.fourth(4, 3)).tells(22, x -> x.fourth(5, 0)).tells(24, x -> x.fourth(5, 2));
        p.tells(24, x -> x.fourth(5, 3)).with(x -> x.lensMake(1, 2)).refused(Probe.SEALED, x -> x.lensTurn(1, 5));
        p.with(x -> x.lensMake(1, 3)).with(x -> x.lensPlace(1, 24)).act(0, x -> x.lensTurn(1, 5));
        Told.lens(p, 1, 0, 24, 24, 24, -1);
    }

    private static void make() {
        Probe p = new Probe("promise 38");
        p.with(x -> x.lensPlace(1, 4)).with(x -> x.lensTurn(1, 3)).with(x -> x.lensPlace(1, 6));
        p.with(x -> x.lensLimit(1, 20)).act(24, x -> x.lensMake(1, 0));
        Told.lens(p, 1, 6, 20, 24, 14, 4, 0, 1, 0, 11);
        p.act(14, x -> x.lensMake(1, 1));
        Told.lens(p, 1, 0, 14, 14, 14, -1, 0, 1, 0, 17);
        p.with(x -> x.lensPlace(1, 3)).with(x -> x.lensTurn(1, 3)).act(14, x -> x.lensMake(1, 2));
        Told.lens(p, 1, 3, 14, 14, 11, 3, 1, 0, 0, -1);
        p.act(14, x -> x.lensMake(1, 0)).tells(1, x -> x.lens(1, 5));
        p.act(11, x -> x.lensMake(1, 1));
        Told.lens(p, 1, 0, 11, 11, 11, -1, 1, 0, 0, -1);
        p.act(24, x -> x.lensMake(1, 3));
        Told.lens(p, 1, 0, 24, 24, 24, -1, 0, 1, 0, 11);
        p.act(14, x -> x.lensMake(0, 1));
        Told.lens(p, 0, 0, 14, 14, 14, -1, 1, 0, 0, -1);
        p.with(x -> x.lensPlace(0, 14)).act(0, x -> x.lensMake(0, 1)).act(0, x -> x.lensMake(0, 1));
        Told.lens(p, 0, 0, 0, 0, 0, -1);
        p.act(16, x -> x.lensMake(0, 3));
        Told.lens(p, 0, 1, 15, 16, 14, -1, 1, 0, 0, -1);
        p.with(x -> x.lensPlace(1, 24)).act(0, x -> x.lensMake(1, 1));
        Told.lens(p, 1, 0, 0, 0, 0, -1, 0, 1, 0, 35);
        p.thrown(Probe.ARGUMENT, x -> x.lensMake(0, 4)).thrown(Probe.ARGUMENT, x -> x.lensMake(1, -1));
        p.thrown(Probe.INDEX, x -> x.lensMake(2, 4)).thrown(Probe.INDEX, x -> x.lensMake(-1, 0));
    }

    private static void cut() {
        Probe p = new Probe("promise 39");
        p.refused(Probe.BEYOND, x -> x.lensCut(0, 16, 0)).refused(Probe.BEYOND, x -> x.lensCut(0, 0, 16));
        p.refused(Probe.BEYOND, x -> x.lensCut(0, -1, 1)).refused(Probe.BEYOND, x -> x.lensCut(0, 1, -1));
        p.refused(Probe.BEYOND, x -> x.lensCut(0, 3, 13)).refused(Probe.BEYOND, x -> x.lensCut(0, 3, MAX));
        p.refused(Probe.BEYOND, x -> x.lensCut(0, MIN, MIN)).refused(Probe.BEYOND, x -> x.lensCut(0, MAX, 1));
        p.with(x -> x.lensTurn(0, 3)).act(12, x -> x.lensCut(0, 3, 12));
        Told.lens(p, 0, 0, 12, 12, 12, -1, 1, 0, 0, -1);
        p.with(x -> x.lensPlace(1, 9)).act(20, x -> x.lensCut(1, 2, 20));
        Told.lens(p, 1, 0, 20, 20, 20, -1, 0, 1, 0, 13);
        p.act(5, x -> x.lensCut(1, 7, 5)).tells(20, x -> x.lens(1, 8)).act(0, x -> x.lensCut(1, 5, 0));
        p.tells(25, x -> x.lens(1, 8)).act(0, x -> x.lensCut(1, 0, 0)).refused(Probe.BEYOND, x -> x.lensCut(1, 1, 0));
        p.act(16, x -> x.lensMake(0, 3)).act(0, x -> x.lensCut(0, 15, 0)).act(24, x -> x.lensMake(1, 3));
        p.with(x -> x.lensMake(1, 2)).act(24, x -> x.lensCut(1, 0, 24)).tells(1, x -> x.lens(1, 5));
        p.thrown(Probe.INDEX, x -> x.lensCut(2, -1, -1)).thrown(Probe.INDEX, x -> x.lensCut(-1, 0, 0));
    }

    private static void tellers() {
        Probe p = new Probe("promise 40");
        p.with(x -> x.lensPlace(1, 2)).with(x -> x.lensTurn(1, 3)).with(x -> x.nextShort());
        Told.lens(p, 1, 3, 24, 24, 21, 2, 0, 1, 0, 11);
        p.thrown(Probe.ARGUMENT, x -> x.lens(0, 9)).thrown(Probe.ARGUMENT, x -> x.lens(1, -1));
        p.thrown(Probe.INDEX, x -> x.lens(2, 9)).thrown(Probe.INDEX, x -> x.lens(-1, 0));
    }

    private static void longs() {
        Probe p = new Probe("promises 41 and 42");
        p.with(x -> x.lay(0, 1, 2)).with(x -> x.lay(1, -1, -1)).with(x -> x.put(0, 0)).with(x -> x.put(0, 1));
        p.with(x -> x.put(1, 1)).act(2, x -> x.nextLong(2)).tells("4294967298", x -> x.slotText(2));
        p.act(4, x -> x.nextLong(3)).tells(3, x -> x.lens(0, 0)).act(0, x -> x.nextLong(4));
        p.act(4, x -> x.longAt(6, 4)).act(0, x -> x.longAt(6, 4)).act(4, x -> x.longAt(14, 4));
        p.tells(4, x -> x.lens(0, 0)).act(2, x -> x.longAt(1, 4)).act(2, x -> x.longAt(0, 4));
        p.refused(Probe.BEYOND, x -> x.longAt(15, 4)).refused(Probe.BEYOND, x -> x.longAt(-1, 4));
        p.refused(Probe.BEYOND, x -> x.longAt(MIN, 4)).refused(Probe.BEYOND, x -> x.longAt(MAX, 4));
        p.with(x -> x.lensPlace(0, 6)).with(x -> x.lensMake(0, 1)).act(4, x -> x.longAt(0, 5));
        p.with(x -> x.lensLimit(0, 1)).act(0, x -> x.nextLong(5)).refused(Probe.EMPTY, x -> x.nextLong(5));
        p.refused(Probe.BEYOND, x -> x.longAt(1, 5));
        p.thrown(Probe.INDEX, x -> x.nextLong(6)).thrown(Probe.INDEX, x -> x.nextLong(-1));
        p.thrown(Probe.INDEX, x -> x.longAt(-1, 6)).thrown(Probe.INDEX, x -> x.longAt(0, -1));
    }

    private static void shorts() {
        Probe p = new Probe("promises 43 and 44");
        p.with(x -> x.lay(0, 0x00010002, 0x8000FFFF)).with(x -> x.lay(5, 0, 7)).act(1, x -> x.nextShort());
        p.act(2, x -> x.nextShort()).act(-32768, x -> x.nextShort()).act(-1, x -> x.nextShort());
        p.tells(4, x -> x.lens(1, 0)).act(1, x -> x.shortAt(0)).act(-1, x -> x.shortAt(3));
        p.act(7, x -> x.shortAt(23)).tells(4, x -> x.lens(1, 0));
        p.refused(Probe.BEYOND, x -> x.shortAt(24)).refused(Probe.BEYOND, x -> x.shortAt(-1));
        p.refused(Probe.BEYOND, x -> x.shortAt(MAX)).refused(Probe.BEYOND, x -> x.shortAt(MIN));
        p.with(x -> x.lensLimit(1, 5)).act(0, x -> x.nextShort()).refused(Probe.EMPTY, x -> x.nextShort());
        p.refused(Probe.BEYOND, x -> x.shortAt(5)).with(x -> x.lensCut(1, 1, 2)).act(2, x -> x.nextShort());
        p.act(-32768, x -> x.shortAt(1)).with(x -> x.lensMake(1, 2)).act(-32768, x -> x.nextShort());
        p.refused(Probe.EMPTY, x -> x.nextShort());
    }

    private static void writes() {
        Probe p = new Probe("promises 45 and 46");
        p.act(1, x -> x.putNext(-1)).act(0, x -> x.putNext(0)).act(1, x -> x.putNext(-32768));
        p.act(1, x -> x.putNext(32767)).act(1, x -> x.putNext(5)).tells(5, x -> x.lens(1, 0));
        p.tells("-281472829194241", x -> x.slotText(0)).tells(5, x -> x.fourth(1, 0));
        p.act(1, x -> x.putAt(23, 9)).act(0, x -> x.putAt(23, 9)).act(1, x -> x.putAt(0, 0));
        p.tells(9, x -> x.fourth(5, 3)).tells(0, x -> x.fourth(0, 0)).tells(5, x -> x.lens(1, 0));
        p.refused(Probe.BEYOND, x -> x.putAt(24, 1)).refused(Probe.BEYOND, x -> x.putAt(-1, 1));
        p.refused(Probe.BEYOND, x -> x.putAt(MIN, 1)).refused(Probe.BEYOND, x -> x.putAt(MAX, 1));
        p.with(x -> x.lensLimit(1, 6)).act(1, x -> x.putNext(6)).refused(Probe.FULL, x -> x.putNext(6));
        p.refused(Probe.BEYOND, x -> x.putAt(6, 1)).with(x -> x.lensPlace(1, 4)).with(x -> x.lensMake(1, 1));
        p.act(1, x -> x.putAt(1, 4)).tells(4, x -> x.fourth(1, 1)).with(x -> x.lensMake(1, 2));
        p.refused(Probe.SEALED, x -> x.putNext(1)).refused(Probe.SEALED, x -> x.putAt(1, 1));
        p.refused(Probe.BEYOND, x -> x.putAt(2, 1)).with(x -> x.lensPlace(1, 2));
        p.refused(Probe.SEALED, x -> x.putNext(1));
        p.thrown(Probe.ARGUMENT, x -> x.putNext(32768)).thrown(Probe.ARGUMENT, x -> x.putNext(-32769));
        p.thrown(Probe.ARGUMENT, x -> x.putAt(-1, 32768)).thrown(Probe.ARGUMENT, x -> x.putAt(0, -32769));
    }

    private static void seesTheQueues() {
        Probe p = new Probe("lens 0 over a queue");
        p.with(x -> x.lay(0, 0, 8)).with(x -> x.put(2, 0)).with(x -> x.lensCut(0, 9, 6)).act(1, x -> x.longAt(0, 5));
        p.with(x -> x.lay(0, 0, 9)).with(x -> x.mend(2, 0, 0)).act(1, x -> x.longAt(0, 5));
        p.tells("9", x -> x.slotText(5)).with(x -> x.take(2, 1)).act(0, x -> x.nextLong(5));
    }
}
