import java.io.IOException;
import java.lang.reflect.Array;
import java.lang.reflect.Field;
import java.util.Arrays;
import java.util.List;

/**
 * Promise 50, where it is false. No call makes it so, so this reaches into the object and breaks each sentence alone;
 * where the fields of the class get other names, this must be told them. A class that has none of these fields holds
 * its state in another way, as it may: then nothing is broken.
 */
public final class SoundTest {
    private static final String[] WINDOWS = {"pipeWindow", "longLens", "shortLens", "ring0.writer", "ring0.reader",
        "ring1.writer", "ring1.reader", "line.writer", "line.reader"};

    private static final List<String> FIELDS = List.of("longRow", "shortRow", "ring0", "ring1", "line", "pipeWindow",
            "longLens", "shortLens");
    private static Sentences doc;

    private final Sluiceshelf x = new Sluiceshelf();

    public static void main(String[] args) throws ReflectiveOperationException, IOException {
        doc = Doc.promises().get(49).sentences();
        doc.says("Returns whether all of this is so:");
        if (Arrays.stream(Sluiceshelf.class.getDeclaredFields()).noneMatch(field -> FIELDS.contains(field.getName()))) {
            System.out.println("nothing to break: this class holds its state in another way");
            return;
        }
        windowsInOrder();
        fullAndEmpty();
        limitsOfARing();
        sumOfARing();
        sumOfTheLine();
        readAlike();
        slots();
        lensOfTheShelf();
        cellsOfNone();
        doc.allSaid();
        Probe.end();
    }

    /** Sets a field, told by its path from the object on, or an element of an array, told by its number. */
    private SoundTest set(String path, Object value) throws ReflectiveOperationException {
        String[] names = path.split("\\.");
        Object owner = x;
        for (int i = 0; i < names.length - 1; i++) {
            owner = field(owner, names[i]).get(owner);
        }
        String last = names[names.length - 1];
        if (owner.getClass().isArray()) {
            Array.set(owner, Integer.parseInt(last), value);
        } else {
            field(owner, last).set(owner, value);
        }
        return this;
    }

    private SoundTest places(String window, int place, int limit, int mark) throws ReflectiveOperationException {
        return set(window + ".place", place).set(window + ".limit", limit).set(window + ".mark", mark);
    }

    /** Lets it look at the other row. */
    private SoundTest swapped(String window, String row) throws ReflectiveOperationException {
        return set(window + ".row", field(x, row).get(x));
    }

    private static Field field(Object owner, String name) throws ReflectiveOperationException {
        Field field = owner.getClass().getDeclaredField(name);
        field.setAccessible(true);
        return field;
    }

    private void isUnsound(String about) {
        Probe.due(about, x.isSound(), false);
        Probe.due("promise 51 with " + about, x.digest(), Digest.of(x));
    }

    private void isStillSound(String about) {
        Probe.due(about, x.isSound(), true);
        Probe.due("promise 51 with " + about, x.digest(), Digest.of(x));
    }

    private static void windowsInOrder() throws ReflectiveOperationException {
        String said = doc.says("of each WINDOW -1 <= MARK <= PLACE <= LIMIT <= SIZE;");
        for (String window : WINDOWS) {
            String about = said + " " + window;
            new SoundTest().set(window + ".mark", -2).isUnsound(about + ", MARK -2");
            new SoundTest().set(window + ".mark", 2).isUnsound(about + ", MARK beyond PLACE");
            new SoundTest().set(window + ".place", 25).isUnsound(about + ", PLACE beyond LIMIT");
            new SoundTest().set(window + ".limit", 25).isUnsound(about + ", LIMIT beyond SIZE");
        }
    }

    /** Here, the ring's sum and limits are as they should be. */
    private static void fullAndEmpty() throws ReflectiveOperationException {
        String said = doc.says("no RING is both full and empty;");
        for (int ring = 0; ring < 2; ring++) {
            int size = 5 - 2 * ring;
            String name = "ring" + ring;
            SoundTest both = new SoundTest().set(name + ".isAround", true).places(name + ".writer", 2, 2, -1);
            both.places(name + ".reader", size, size, 2).isUnsound(said + " " + name + ", both");
            SoundTest full = new SoundTest().set(name + ".isAround", true).places(name + ".writer", 2, 2, -1);
            full.places(name + ".reader", size - 1, size, 2).isStillSound(said + " " + name + ", full");
        }
    }

    private static void limitsOfARing() throws ReflectiveOperationException {
        String said = doc.says("of a RING just one LIMIT is SIZE,");
        SoundTest both = new SoundTest().set("ring0.isAround", true).places("ring0.writer", 0, 5, -1);
        both.places("ring0.reader", 5, 5, -1).isUnsound(said + " ring 0, both");
        SoundTest none = new SoundTest().places("ring0.writer", 1, 4, -1);
        none.places("ring0.reader", 1, 2, -1).isUnsound(said + " ring 0, none");
        SoundTest other = new SoundTest().set("ring1.isAround", true).places("ring1.writer", 0, 3, -1);
        other.places("ring1.reader", 3, 3, -1).isUnsound(said + " ring 1, both");
    }

    private static void sumOfARing() throws ReflectiveOperationException {
        String said = doc.says("and LIE, KEPT and ROOM are together SIZE;");
        for (int ring = 0; ring < 2; ring++) {
            int size = 5 - 2 * ring;
            String name = "ring" + ring;
            String about = said + " " + name;
            SoundTest less = new SoundTest().places(name + ".writer", 2, size, -1);
            less.places(name + ".reader", 0, 1, -1).isUnsound(about + ", one is missing");
            less.places(name + ".reader", 0, 2, -1).isStillSound(about + ", none is missing");
            less.places(name + ".reader", 1, 2, -1).isStillSound(about + ", one is out");
            less.places(name + ".reader", 1, 2, 0).isStillSound(about + ", one is kept");
        }
    }

    private static void sumOfTheLine() throws ReflectiveOperationException {
        String said = doc.says("of the LINE LIE, ROOM and READER's PLACE are;");
        SoundTest line = new SoundTest().places("line.writer", 3, 6, -1);
        line.places("line.reader", 1, 2, -1).isUnsound(said + " one is missing");
        line.places("line.reader", 1, 3, -1).isStillSound(said + " none is missing");
        line.places("line.writer", 3, 5, -1).isUnsound(said + " less room");
    }

    /** Each window of each queue looks at the other row, where its cell has another number. */
    private static void readAlike() throws ReflectiveOperationException {
        String said = doc.says("each cell of a QUEUE is read alike by a WINDOW and in the row;");
        for (int cell = 1; cell <= 14; cell++) {
            String queue = cell <= 5 ? "ring0" : cell <= 8 ? "ring1" : "line";
            for (String window : new String[] {queue + ".writer", queue + ".reader"}) {
                SoundTest swapped = new SoundTest().swapped(window, "shortRow");
                swapped.isStillSound(said + " cell " + cell + " of " + window + ", alike");
                swapped.set("longRow.cells." + cell, 5L).isUnsound(said + " cell " + cell + " of " + window);
            }
        }
    }

    /** A cell that no FOURTH fits into, in each cell of each slot. */
    private static void slots() throws ReflectiveOperationException {
        String said = doc.says("each slot's NUMBER is that of its four cells in the SHORT ROW;");
        for (int cell = 11; cell <= 34; cell++) {
            new SoundTest().set("shortRow.cells." + cell, 32768L).isUnsound(said + " cell " + cell + ", 32768");
            new SoundTest().set("shortRow.cells." + cell, 32767L).isStillSound(said + " cell " + cell + ", 32767");
        }
    }

    private static void lensOfTheShelf() throws ReflectiveOperationException {
        String said = doc.says("LENS 1, if it is not SEALED, reads the cells of the row that the sum says;");
        for (int cell = 11; cell <= 34; cell++) {
            SoundTest swapped = new SoundTest().swapped("shortLens", "longRow");
            swapped.isStillSound(said + " cell " + cell + ", alike");
            swapped.set("shortRow.cells." + cell, 5L).isUnsound(said + " cell " + cell);
            swapped.set("shortLens.isSealed", true).isStillSound(said + " cell " + cell + ", SEALED");
        }
    }

    private static void cellsOfNone() throws ReflectiveOperationException {
        String said = doc.says("the cells that belong to none are 0.");
        for (int cell : new int[] {0, 15}) {
            new SoundTest().set("longRow.cells." + cell, 1L).isUnsound(said + " long cell " + cell);
        }
        for (int cell : new int[] {0, 35}) {
            new SoundTest().set("shortRow.cells." + cell, 1L).isUnsound(said + " short cell " + cell);
        }
        new SoundTest().set("longRow.cells.1", 1L).set("longRow.cells.14", 1L).set("shortRow.cells.1", 1L)
                .set("shortRow.cells.34", 1L).isStillSound(said + " those beside them");
    }
}
