/** Promises 1 to 7: a new object, and the shelf. */
public final class ShelfTest {
    private static final int MIN = Integer.MIN_VALUE;
    private static final int MAX = Integer.MAX_VALUE;

    public static void main(String[] args) {
        newObject();
        lay();
        layFourth();
        upperAndLower();
        fourth();
        slotText();
        Probe.end();
    }

    private static void newObject() {
        Probe p = new Probe("promise 1");
        for (int i = 0; i < 6; i++) {
            int slot = i;
            p.tells("0", x -> x.slotText(slot)).tells(0, x -> x.upper(slot)).tells(0, x -> x.lower(slot));
        }
        for (int i = 0; i < 16; i++) {
            int cell = i;
            p.tells("0", x -> x.cellText(cell));
        }
        int[] sizes = {5, 3, 6};
        int[] firsts = {1, 6, 9};
        for (int i = 0; i < 3; i++) {
            int queue = i;
            Told.places(p, queue, 0, sizes[i], 0, 0, -1, sizes[i], firsts[i]);
            Told.queue(p, queue, "", sizes[i], false, true);
        }
        Told.pipe(p, 0, 10, 10, 10, -1, 0, 1, 0);
        Told.lens(p, 0, 1, 15, 16, 14, -1, 1, 0, 0, -1);
        Told.lens(p, 1, 0, 24, 24, 24, -1, 0, 1, 0, 11);
        p.tellsEach((x, what) -> x.house(what), 0, 0, 0, 0, 0, 0, 0, 0);
        p.tells("", x -> x.pipeText());
    }

    private static void lay() {
        new Probe("promise 2")
                .act(2, x -> x.lay(0, 1, 2))
                .act(0, x -> x.lay(0, 1, 2))
                .act(1, x -> x.lay(0, 65537, 2))
                .act(4, x -> x.lay(5, -1, -1))
                .act(1, x -> x.lay(4, MIN, 0))
                .act(1, x -> x.lay(3, 0, 0x80000000))
                .act(1, x -> x.lay(2, 0, 0x0000FFFF))
                .tells("281479271677954", x -> x.slotText(0))
                .tells("-1", x -> x.slotText(5))
                .tells("-9223372036854775808", x -> x.slotText(4))
                .tells("2147483648", x -> x.slotText(3))
                .tells("65535", x -> x.slotText(2))
                .tells("0", x -> x.slotText(1))
                .thrown(Probe.INDEX, x -> x.lay(6, 1, 1))
                .thrown(Probe.INDEX, x -> x.lay(-1, 1, 1))
                .thrown(Probe.INDEX, x -> x.lay(MIN, 1, 1))
                .thrown(Probe.INDEX, x -> x.lay(MAX, 1, 1));
    }

    private static void layFourth() {
        new Probe("promise 3")
                .act(1, x -> x.layFourth(0, 0, 1))
                .act(1, x -> x.layFourth(0, 1, 2))
                .act(1, x -> x.layFourth(0, 2, -3))
                .act(1, x -> x.layFourth(0, 3, 32767))
                .act(0, x -> x.layFourth(0, 3, 32767))
                .act(0, x -> x.layFourth(0, 2, -3))
                .tells(65538, x -> x.upper(0))
                .tells(-163841, x -> x.lower(0))
                .act(1, x -> x.layFourth(5, 3, -32768))
                .tells("32768", x -> x.slotText(5))
                .thrown(Probe.INDEX, x -> x.layFourth(6, 0, 1))
                .thrown(Probe.INDEX, x -> x.layFourth(-1, 4, 40000))
                .thrown(Probe.ARGUMENT, x -> x.layFourth(0, 4, 1))
                .thrown(Probe.ARGUMENT, x -> x.layFourth(0, -1, 1))
                .thrown(Probe.ARGUMENT, x -> x.layFourth(0, 0, 32768))
                .thrown(Probe.ARGUMENT, x -> x.layFourth(0, 0, -32769))
                .thrown(Probe.ARGUMENT, x -> x.layFourth(0, MAX, MIN));
    }

    private static void upperAndLower() {
        new Probe("promises 4 and 5")
                .with(x -> x.lay(0, MIN, MAX))
                .with(x -> x.lay(5, -2, -3))
                .tells(MIN, x -> x.upper(0))
                .tells(MAX, x -> x.lower(0))
                .tells(-2, x -> x.upper(5))
                .tells(-3, x -> x.lower(5))
                .thrown(Probe.INDEX, x -> x.upper(6))
                .thrown(Probe.INDEX, x -> x.upper(-1))
                .thrown(Probe.INDEX, x -> x.lower(6))
                .thrown(Probe.INDEX, x -> x.lower(-1));
    }

    private static void fourth() {
        new Probe("promise 6")
                .with(x -> x.lay(1, 0x80007FFF, 0xFFFF0001))
                .tells(-32768, x -> x.fourth(1, 0))
                .tells(32767, x -> x.fourth(1, 1))
                .tells(-1, x -> x.fourth(1, 2))
                .tells(1, x -> x.fourth(1, 3))
                .tells(0, x -> x.fourth(0, 3))
                .tells(0, x -> x.fourth(2, 0))
                .thrown(Probe.INDEX, x -> x.fourth(6, 4))
                .thrown(Probe.INDEX, x -> x.fourth(-1, 0))
                .thrown(Probe.ARGUMENT, x -> x.fourth(0, 4))
                .thrown(Probe.ARGUMENT, x -> x.fourth(0, -1));
    }

    private static void slotText() {
        Probe p = new Probe("promise 7");
        long[] values = {0, 9, 10, -9, -10, 100, 1000000000, -1000000001, Long.MAX_VALUE, Long.MIN_VALUE,
            Long.MIN_VALUE + 1, 1000000000000000000L, 999999999999999999L, -1000000000000000000L, 90909};
        for (long value : values) {
            p.with(x -> x.lay(2, (int) (value >> 32), (int) value)).tells(Long.toString(value), x -> x.slotText(2));
        }
        p.thrown(Probe.INDEX, x -> x.slotText(6)).thrown(Probe.INDEX, x -> x.slotText(-1));
    }
}
