import java.io.IOException;

/** The 512th call of an object still answers as it is due, whatever was called before. */
public final class CallsEdgeTest {
    private static final int MOST_CALLS = 512;
    private static final String ABOUT = "An object is used for at most 512 calls after it has been made";

    public static void main(String[] args) throws IOException {
        Probe.due("the document says: " + ABOUT, Doc.text().contains(ABOUT + ";"), true);
        counted();
        queues();
        pipe();
        lenses();
        tellers();
        Probe.end();
    }

    /** A new object on which all calls but the last one are made. */
    private static Sluiceshelf used(Probe.Call call) {
        Sluiceshelf x = new Sluiceshelf();
        for (int i = 1; i < MOST_CALLS; i++) {
            call.of(x);
        }
        return x;
    }

    private static void due(String what, Object got, Object want) {
        Probe.due(ABOUT + ", the last one, " + what, got, want);
    }

    private static void counted() {
        due("acts", used(x -> x.lay(0, 0, 0)).house(0), MOST_CALLS - 1);
        due("EMPTY", used(x -> x.take(0, 0)).house(2), MOST_CALLS - 1);
        due("UNMARKED", used(x -> x.back(0)).house(3), MOST_CALLS - 1);
        due("SEALED", used(x -> x.poke(0, 0)).house(4), MOST_CALLS - 1);
        due("BEYOND", used(x -> x.shortAt(-1)).house(5), MOST_CALLS - 1);
        due("UNFIT", used(x -> x.lensPlace(0, -1)).house(6), MOST_CALLS - 1);
        due("knocks", used(x -> x.knock()).knock(), MOST_CALLS);
        Sluiceshelf full = new Sluiceshelf();
        full.lensLimit(1, 0);
        for (int i = 2; i < MOST_CALLS; i++) {
            full.putNext(1);
        }
        due("FULL", full.house(1), MOST_CALLS - 2);
    }

    /** Each ring goes around again and again; the line is squeezed each time. */
    private static void queues() {
        for (int queue = 0; queue < 3; queue++) {
            Sluiceshelf x = new Sluiceshelf();
            for (int i = 0; i < MOST_CALLS / 4; i++) {
                due("lay", x.lay(0, 0, i + 1), 1);
                due("put", x.put(queue, 0), 1);
                due("take", x.take(queue, 1), 0);
                boolean isLine = queue == 2;
                due("the number, or squeeze", isLine ? x.squeeze() : x.lower(1), isLine ? 1 : i + 1);
            }
        }
        Sluiceshelf x = new Sluiceshelf();
        x.lay(0, 0, 9);
        x.put(0, 0);
        x.put(0, 0);
        for (int i = 4; i < MOST_CALLS; i++) {
            due("pass", x.pass(i % 2, 1 - i % 2), 2);
        }
        due("text", x.queueText(0), "9 9");
    }

    private static void pipe() {
        Sluiceshelf x = new Sluiceshelf();
        for (int i = 0; i < MOST_CALLS / 4; i++) {
            due("pourAll", x.pourAll(0, 0), 4);
            due("turn, to draw", x.turn(), 4);
            due("drawAll", x.drawAll(1), 0);
            due("turn, to pour", x.turn(), 10);
        }
        due("pipeMark", used(y -> y.pipeMark()).pipeBack(), 0);
    }

    private static void lenses() {
        due("TWIN", used(x -> x.lensMake(1, 0)).lensMake(1, 0), 24);
        due("SLICE", used(x -> x.lensMake(0, 1)).lensMake(0, 1), 14);
        due("as at first", used(x -> x.lensMake(0, 3)).lensMake(0, 3), 16);
        due("CUT", used(x -> x.lensCut(1, 0, 24)).lens(1, 8), 11);
        due("write", used(x -> x.putAt(23, 5)).fourth(5, 3), 5);
    }

    private static void tellers() {
        due("digest", used(x -> x.digest()).digest(), new Sluiceshelf().digest());
        due("sound", used(x -> x.isSound()).isSound(), true);
        due("text", used(x -> x.slotText(0)).slotText(0), "0");
    }
}
