import java.math.BigInteger;
import java.util.ArrayList;
import java.util.List;

/** The checksum of promise 51, reckoned without bounds and only then wrapped around. */
final class Digest {
    private static final BigInteger TWO_64 = BigInteger.ONE.shiftLeft(64);
    private static final BigInteger TWO_63 = BigInteger.ONE.shiftLeft(63);

    private Digest() {
    }

    /** Of the values in the document's order, asked of the object. */
    static long of(Sluiceshelf x) {
        List<Long> values = new ArrayList<>();
        for (int slot = 0; slot < 6; slot++) {
            values.addAll(longs(x.upper(slot), x.lower(slot)));
        }
        for (int queue = 0; queue < 3; queue++) {
            values.addAll(longs(x.lies(queue), x.room(queue)));
            for (int what = 0; what < 7; what++) {
                values.addAll(longs(x.place(queue, what)));
            }
            values.addAll(longs(x.queueText(queue).length()));
        }
        for (int cell = 0; cell < 16; cell++) {
            long number = Long.parseLong(x.cellText(cell));
            values.addAll(longs((int) (number >> 32), (int) number));
        }
        for (int what = 0; what < 8; what++) {
            values.addAll(longs(x.pipe(what)));
        }
        values.addAll(longs(x.pipeText().length()));
        for (int what = 0; what < 18; what++) {
            values.addAll(longs(x.lens(what / 9, what % 9)));
        }
        for (int what = 0; what < 8; what++) {
            values.addAll(longs(x.house(what)));
        }
        values.addAll(longs(x.isSound() ? 1 : 0));
        return wrapped(values);
    }

    /** The checksum without bounds, then wrapped around. */
    static long wrapped(List<Long> values) {
        BigInteger d = BigInteger.valueOf(7701);
        for (long v : values) {
            d = d.multiply(BigInteger.valueOf(31)).add(BigInteger.valueOf(v));
        }
        BigInteger within = d.mod(TWO_64);
        return within.compareTo(TWO_63) < 0 ? within.longValueExact() : within.subtract(TWO_64).longValueExact();
    }

    static List<Long> longs(int... values) {
        List<Long> list = new ArrayList<>();
        for (int value : values) {
            list.add((long) value);
        }
        return list;
    }
}
