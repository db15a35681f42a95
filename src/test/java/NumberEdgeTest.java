import java.math.BigInteger;
import java.util.ArrayList;
import java.util.List;

/** The least and the greatest NUMBER and FOURTH, how many are others, texts, and the wrap-around of digest(). */
public final class NumberEdgeTest {
    private static final int MIN = Integer.MIN_VALUE;
    private static final int MAX = Integer.MAX_VALUE;
    private static final int[] ENDS = {MIN, MIN + 1, -65537, -65536, -32769, -32768, -1, 0, 1, 32767, 32768, 65535,
        65536, MAX - 1, MAX};

    public static void main(String[] args) {
        numbers();
        signOfEachFourth();
        fourths();
        othersOfEachKind();
        othersOfOneDigit();
        mendOfOneDigit();
        texts();
        textsOfSeveral();
        textsOneAfterAnother();
        digestOfANewObject();
        digestWrapsAround();
        digestOfEachCount();
        Probe.end();
    }

    /** The value of 64 digits told by their first and last 32. */
    private static String value(int upper, int lower) {
        BigInteger low = BigInteger.valueOf(lower).mod(BigInteger.ONE.shiftLeft(32));
        return BigInteger.valueOf(upper).shiftLeft(32).add(low).toString();
    }

    private static void numbers() {
        for (int upper : ENDS) {
            for (int lower : ENDS) {
                Probe p = new Probe("section 1, upper " + upper + ", lower " + lower).with(x -> x.lay(3, upper, lower));
                p.tells(upper, x -> x.upper(3)).tells(lower, x -> x.lower(3));
                p.tells(value(upper, lower), x -> x.slotText(3));
                p.tells(upper >> 16, x -> x.fourth(3, 0)).tells((int) (short) upper, x -> x.fourth(3, 1));
                p.tells(lower >> 16, x -> x.fourth(3, 2)).tells((int) (short) lower, x -> x.fourth(3, 3));
                p.with(x -> x.put(2, 3)).with(x -> x.take(2, 5)).tells(upper, x -> x.upper(5));
                p.tells(lower, x -> x.lower(5)).tells(value(upper, lower), x -> x.cellText(9));
            }
        }
    }

    /** Only the first digit of all is the NUMBER's sign. */
    private static void signOfEachFourth() {
        String[] negative = {"-281474976710656", "281470681743360", "4294901760", "65535"};
        String[] least = {"-9223372036854775808", "140737488355328", "2147483648", "32768"};
        String[] greatest = {"9223090561878065152", "140733193388032", "2147418112", "32767"};
        for (int i = 0; i < 4; i++) {
            int fourth = i;
            Probe p = new Probe("section 1, the sign of fourth " + fourth);
            p.act(1, x -> x.layFourth(0, fourth, -1)).tells(negative[i], x -> x.slotText(0));
            p.act(1, x -> x.layFourth(0, fourth, -32768)).tells(least[i], x -> x.slotText(0));
            p.act(1, x -> x.layFourth(0, fourth, 32767)).tells(greatest[i], x -> x.slotText(0));
            p.tells(32767, x -> x.fourth(0, fourth)).tells("0", x -> x.slotText(1));
        }
    }

    private static void fourths() {
        for (int slot = 0; slot < 6; slot++) {
            for (int k = 0; k < 4; k++) {
                fourthOf(slot, k);
            }
        }
    }

    private static void fourthOf(int slot, int fourth) {
        Probe p = new Probe("promise 3, fourth " + fourth + " of slot " + slot);
        p.act(1, x -> x.layFourth(slot, fourth, -32768)).tells(-32768, x -> x.fourth(slot, fourth));
        p.actWithoutChange(0, x -> x.layFourth(slot, fourth, -32768));
        p.act(-32768, x -> x.shortAt(4 * slot + fourth));
        p.act(1, x -> x.layFourth(slot, fourth, 32767)).tells(32767, x -> x.fourth(slot, fourth));
        p.actWithoutChange(0, x -> x.layFourth(slot, fourth, 32767)).act(1, x -> x.layFourth(slot, fourth, 0));
        for (int other = 0; other < 6; other++) {
            int alone = other;
            p.tells("0", x -> x.slotText(alone));
        }
    }

    /** Of each of the 16 choices of fourths that are others. */
    private static void othersOfEachKind() {
        for (int i = 0; i < 16; i++) {
            int upper = (i & 8) * 8192 + (i & 4);
            int lower = (i & 2) * 65536 + (i & 1);
            Probe p = new Probe("section 7, how many are others, " + i).with(x -> x.lay(1, upper, lower));
            int others = Integer.bitCount(i);
            p.branch("promise 2, others, " + i).act(others, x -> x.lay(0, upper, lower))
                    .act(0, x -> x.lay(0, upper, lower));
            p.branch("promise 10, others, " + i).with(x -> x.put(0, 1)).act(others, x -> x.look(0, 0, 0))
                    .act(0, x -> x.look(0, 0, 0));
            p.branch("promise 41, others, " + i).with(x -> x.put(0, 1)).act(others, x -> x.nextLong(0))
                    .act(others, x -> x.nextLong(1));
            p.branch("promise 42, others, " + i).with(x -> x.put(0, 1)).act(others, x -> x.longAt(1, 0))
                    .act(0, x -> x.longAt(1, 0)).act(others, x -> x.longAt(2, 0));
            p.branch("promise 28, others, " + i).with(x -> x.pourAll(1, 0)).with(x -> x.pourAll(1, 0))
                    .with(x -> x.turn())
                    .act(others, x -> x.drawAll(0)).act(0, x -> x.drawAll(0));
        }
    }

    /** One digit makes another fourth, whichever it is. */
    private static void othersOfOneDigit() {
        for (int digit = 0; digit < 64; digit++) {
            long number = 1L << digit;
            int upper = (int) (number >> 32);
            int lower = (int) number;
            Probe p = new Probe("promise 2, digit " + digit).act(1, x -> x.lay(0, upper, lower));
            p.act(1, x -> x.lay(0, 0, 0)).with(x -> x.lay(0, -1, -1)).act(1, x -> x.lay(0, ~upper, ~lower));
        }
    }

    private static void mendOfOneDigit() {
        for (int digit = 0; digit < 64; digit++) {
            int upper = (int) (1L << digit >> 32);
            int lower = (int) (1L << digit);
            Probe p = new Probe("promise 11, digit " + digit).with(x -> x.lay(0, upper, lower)).with(x -> x.put(1, 1));
            p.act(1, x -> x.mend(1, 0, 0)).actWithoutChange(0, x -> x.mend(1, 0, 0)).act(1, x -> x.mend(1, 0, 1));
            p.actWithoutChange(0, x -> x.mend(1, 0, 1)).tells("0", x -> x.queueText(1));
        }
    }

    /** At each change of how many digits a text has, and at both ends. */
    private static void texts() {
        List<Long> values = new ArrayList<>(List.of(0L, Long.MAX_VALUE, Long.MIN_VALUE, Long.MIN_VALUE + 1));
        for (long power = 1; power > 0 && power <= 1000000000000000000L; power *= 10) {
            values.addAll(List.of(power - 1, power, power + 1, -power + 1, -power, -power - 1));
        }
        for (long value : values) {
            Probe p = new Probe("section 1, the text of " + value)
                    .with(x -> x.lay(0, (int) (value >> 32), (int) value));
            String text = BigInteger.valueOf(value).toString();
            p.tells(text, x -> x.slotText(0)).with(x -> x.put(0, 0)).tells(text, x -> x.queueText(0));
            p.tells(text, x -> x.cellText(1));
        }
    }

    private static void textsOfSeveral() {
        Probe p = new Probe("promise 24, the longest text").with(x -> x.lay(0, MIN, 0));
        p.tells("", x -> x.queueText(2));
        StringBuilder longest = new StringBuilder();
        for (int i = 0; i < 6; i++) {
            p.with(x -> x.put(2, 0));
            longest.append(i == 0 ? "" : " ").append("-9223372036854775808");
            p.tells(longest.toString(), x -> x.queueText(2));
        }
        Probe pipe = new Probe("promise 34, the longest text").with(x -> x.layFourth(0, 2, -32768));
        StringBuilder fourths = new StringBuilder();
        for (int i = 0; i < 10; i++) {
            pipe.with(x -> x.pour(0, 2));
            fourths.append(i == 0 ? "" : " ").append("-32768");
            pipe.tells(fourths.toString(), x -> x.pipeText());
        }
    }

    /** No text holds what another one told before. */
    private static void textsOneAfterAnother() {
        Sluiceshelf x = new Sluiceshelf();
        x.lay(0, 0, -1);
        x.put(0, 0);
        x.put(0, 1);
        x.pour(0, 2);
        x.pour(0, 1);
        for (int i = 0; i < 2; i++) {
            Probe.due("promise 24, behind others", x.queueText(0), "4294967295 0");
            Probe.due("promise 24, twice", x.queueText(0), "4294967295 0");
            Probe.due("promise 7, behind others", x.slotText(0), "4294967295");
            Probe.due("promise 34, behind others", x.pipeText(), "-1 0");
            Probe.due("promise 34, twice", x.pipeText(), "-1 0");
            Probe.due("promise 47, behind others", x.cellText(1), "4294967295");
            Probe.due("promise 24, none", x.queueText(1), "");
        }
    }

    /** All values written out from the document, none asked of the object. */
    private static void digestOfANewObject() {
        List<Long> values = Digest.longs(new int[12]);
        values.addAll(Digest.longs(0, 5, 0, 5, 0, 0, -1, 5, 1, 0));
        values.addAll(Digest.longs(0, 3, 0, 3, 0, 0, -1, 3, 6, 0));
        values.addAll(Digest.longs(0, 6, 0, 6, 0, 0, -1, 6, 9, 0));
        values.addAll(Digest.longs(new int[32]));
        values.addAll(Digest.longs(0, 10, 10, 10, -1, 0, 1, 0, 0));
        values.addAll(Digest.longs(1, 15, 16, 14, -1, 1, 0, 0, -1));
        values.addAll(Digest.longs(0, 24, 24, 24, -1, 0, 1, 0, 11));
        values.addAll(Digest.longs(new int[8]));
        values.add(1L);
        new Probe("promise 51, a new object").tells(Digest.wrapped(values), x -> x.digest());
    }

    private static void digestWrapsAround() {
        for (int end : ENDS) {
            Probe p = new Probe("promise 51, with " + end).with(x -> x.lay(0, end, end)).with(x -> x.lay(5, end, ~end));
            p.with(x -> x.put(0, 0)).with(x -> x.put(1, 0)).with(x -> x.put(2, 5)).with(x -> x.put(2, 0));
            p.with(x -> x.mark(2)).with(x -> x.take(2, 1)).with(x -> x.pourAll(5, 1)).with(x -> x.pipeMark());
            p.with(x -> x.lensTurn(0, 3)).with(x -> x.lensPlace(0, 9)).with(x -> x.lensCut(1, 3, 7))
                    .with(x -> x.turn());
            digestDue(p);
        }
    }

    /** Each kind of refusal, the acts and the knocks stand in the checksum. */
    private static void digestOfEachCount() {
        Probe p = new Probe("promise 51, what is counted").with(x -> x.lensLimit(1, 0));
        digestDue(p.with(x -> x.putNext(0)));
        digestDue(p.with(x -> x.take(0, 0)));
        digestDue(p.with(x -> x.back(0)));
        digestDue(p.with(x -> x.poke(0, 0)));
        digestDue(p.with(x -> x.shortAt(0)));
        digestDue(p.with(x -> x.lensPlace(1, 1)));
        digestDue(p.with(x -> x.knock()));
    }

    private static void digestDue(Probe p) {
        p.tells(true, x -> x.digest() == Digest.of(x));
    }
}
