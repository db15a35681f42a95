/** Promises 47 to 51: cellText, house, knock, isSound and digest. */
public final class WholeTest {
    public static void main(String[] args) {
        cellText();
        house();
        knock();
        soundAndDigest();
        Probe.end();
    }

    private static void cellText() {
        Probe p = new Probe("promise 47");
        p.with(x -> x.lay(0, 0x80000000, 0)).with(x -> x.put(0, 0)).tells("-9223372036854775808", x -> x.cellText(1));
        p.with(x -> x.take(0, 1)).tells("-9223372036854775808", x -> x.cellText(1)).with(x -> x.empty(0));
        p.tells("-9223372036854775808", x -> x.cellText(1)).tells("0", x -> x.cellText(0));
        p.tells("0", x -> x.cellText(15)).tells("0", x -> x.cellText(2));
        p.thrown(Probe.INDEX, x -> x.cellText(16)).thrown(Probe.INDEX, x -> x.cellText(-1));
        p.thrown(Probe.INDEX, x -> x.cellText(Integer.MIN_VALUE));
    }

    private static void house() {
        Probe p = new Probe("promise 48");
        p.with(x -> x.squeeze()).with(x -> x.again()).with(x -> x.lay(0, 0, 0)).with(x -> x.take(0, 0));
        p.with(x -> x.take(0, 0)).with(x -> x.back(0)).with(x -> x.back(0)).with(x -> x.back(0));
        p.with(x -> x.poke(0, 0)).with(x -> x.poke(0, 0)).with(x -> x.poke(0, 0)).with(x -> x.poke(0, 0));
        p.with(x -> x.shortAt(-1)).with(x -> x.lensPlace(0, -1)).with(x -> x.lensPlace(0, -1));
        p.with(x -> x.lensLimit(1, 0)).with(x -> x.putNext(0)).with(x -> x.knock());
        p.tellsEach((x, what) -> x.house(what), 4, 1, 2, 3, 4, 1, 2, 1);
        p.thrown(Probe.ARGUMENT, x -> x.house(8)).thrown(Probe.ARGUMENT, x -> x.house(-1));
        p.thrown(Probe.ARGUMENT, x -> x.house(Integer.MIN_VALUE))
                .thrown(Probe.ARGUMENT, x -> x.house(Integer.MAX_VALUE));
    }

    private static void knock() {
        Probe p = new Probe("promise 49");
        for (int i = 1; i <= 3; i++) {
            int times = i;
            p.with(x -> {
                Probe.due("promise 49", x.knock(), times);
                return null;
            }).tells(times, x -> x.house(7)).tells(0, x -> x.house(0));
        }
    }

    private static void soundAndDigest() {
        Probe p = new Probe("promises 50 and 51");
        p.tells(true, x -> x.isSound()).tells(true, x -> x.digest() == Digest.of(x));
        p.with(x -> x.lay(0, -5, 6)).with(x -> x.put(0, 0)).with(x -> x.put(1, 0)).with(x -> x.put(2, 0));
        p.with(x -> x.pourAll(0, 0)).with(x -> x.lensTurn(0, 3)).with(x -> x.knock()).with(x -> x.back(0));
        p.tells(true, x -> x.digest() == Digest.of(x)).tells(true, x -> x.isSound());
        long before = 0;
        for (int i = 0; i < 5; i++) {
            Sluiceshelf x = new Sluiceshelf();
            x.layFourth(i, 0, 1);
            long now = x.digest();
            Probe.due("promise 51, twice", x.digest(), now);
            Probe.due("promise 51, another slot", now == before, false);
            before = now;
        }
    }
}
