import java.lang.reflect.Array;
import java.lang.reflect.Field;

/**
 * Promise 50, where it is false. No call makes it so, so this reaches into the object and breaks each sentence alone;
 * where the fields of the class get other names, this must be told them.
 */
public final class SoundTest {
    private static final String[] WINDOWS = {"pipeWindow", "longLens", "shortLens", "ring0.writer", "ring0.reader",
        "ring1.writer", "ring1.reader", "line.writer", "line.reader"};

    private final Sluiceshelf x = new Sluiceshelf();

    public static void main(String[] args) throws ReflectiveOperationException {
        windowsInOrder();
        fullAndEmpty();
        limitsOfARing();
        sumOfARing();
        sumOfTheLine();
        slots();
        cellsOfNone();
        Probe.end();
    }

    /** Sets a field, told by its path from the object on, or an element of an array, told by its number. */
    private SoundTest set(String path, Object value) throws ReflectiveOperationException {
        String[] names = path.split("\\.");
        Object owner = x;
        for (int i = 0; i < names.length - 1; i++) {
            owner = field(owner, names[i]).get(owner);
        }
        String last = names[names.length - 1];
        if (owner.getClass().isArray()) {
            Array.set(owner, Integer.parseInt(last), value);
        } else {
            field(owner, last).set(owner, value);
        }
        return this;
    }

    private SoundTest places(String window, int place, int limit, int mark) throws ReflectiveOperationException {
        return set(window + ".place", place).set(window + ".limit", limit).set(window + ".mark", mark);
    }

    private static Field field(Object owner, String name) throws ReflectiveOperationException {
        Field field = owner.getClass().getDeclaredField(name);
        field.setAccessible(true);
        return field;
    }

    private void isUnsound(String about) {
        Probe.due("promise 50, " + about, x.isSound(), false);
        Probe.due("promise 51, " + about, x.digest(), Digest.of(x));
    }

    private void isStillSound(String about) {
        Probe.due("promise 50, " + about, x.isSound(), true);
        Probe.due("promise 51, " + about, x.digest(), Digest.of(x));
    }

    private static void windowsInOrder() throws ReflectiveOperationException {
        for (String window : WINDOWS) {
            new SoundTest().set(window + ".mark", -2).isUnsound(window + ", MARK -2");
            new SoundTest().set(window + ".mark", 2).isUnsound(window + ", MARK beyond PLACE");
            new SoundTest().set(window + ".place", 25).isUnsound(window + ", PLACE beyond LIMIT");
            new SoundTest().set(window + ".limit", 25).isUnsound(window + ", LIMIT beyond SIZE");
        }
    }

    /** Here, the ring's sum and limits are as they should be. */
    private static void fullAndEmpty() throws ReflectiveOperationException {
        for (int ring = 0; ring < 2; ring++) {
            int size = 5 - 2 * ring;
            String name = "ring" + ring;
            SoundTest both = new SoundTest().set(name + ".isAround", true).places(name + ".writer", 2, 2, -1);
            both.places(name + ".reader", size, size, 2).isUnsound(name + ", both full and empty");
            SoundTest full = new SoundTest().set(name + ".isAround", true).places(name + ".writer", 2, 2, -1);
            full.places(name + ".reader", size - 1, size, 2).isStillSound(name + ", full");
        }
    }

    private static void limitsOfARing() throws ReflectiveOperationException {
        SoundTest both = new SoundTest().set("ring0.isAround", true).places("ring0.writer", 0, 5, -1);
        both.places("ring0.reader", 5, 5, -1).isUnsound("ring 0, both LIMITs are SIZE");
        SoundTest none = new SoundTest().places("ring0.writer", 1, 4, -1);
        none.places("ring0.reader", 1, 2, -1).isUnsound("ring 0, no LIMIT is SIZE");
        SoundTest other = new SoundTest().set("ring1.isAround", true).places("ring1.writer", 0, 3, -1);
        other.places("ring1.reader", 3, 3, -1).isUnsound("ring 1, both LIMITs are SIZE");
    }

    private static void sumOfARing() throws ReflectiveOperationException {
        for (int ring = 0; ring < 2; ring++) {
            int size = 5 - 2 * ring;
            String name = "ring" + ring;
            SoundTest less = new SoundTest().places(name + ".writer", 2, size, -1);
            less.places(name + ".reader", 0, 1, -1).isUnsound(name + ", one is missing");
            less.places(name + ".reader", 0, 2, -1).isStillSound(name + ", none is missing");
            less.places(name + ".reader", 1, 2, -1).isStillSound(name + ", one is out");
            less.places(name + ".reader", 1, 2, 0).isStillSound(name + ", one is kept");
        }
    }

    private static void sumOfTheLine() throws ReflectiveOperationException {
        SoundTest line = new SoundTest().places("line.writer", 3, 6, -1);
        line.places("line.reader", 1, 2, -1).isUnsound("the line, one is missing");
        line.places("line.reader", 1, 3, -1).isStillSound("the line, none is missing");
        line.places("line.writer", 3, 5, -1).isUnsound("the line, less room");
    }

    /** A cell that no FOURTH fits into, in each cell of each slot. */
    private static void slots() throws ReflectiveOperationException {
        for (int cell = 11; cell <= 34; cell++) {
            new SoundTest().set("shortRow.cells." + cell, 32768L).isUnsound("short cell " + cell + ", 32768");
            new SoundTest().set("shortRow.cells." + cell, 32767L).isStillSound("short cell " + cell + ", 32767");
        }
    }

    private static void cellsOfNone() throws ReflectiveOperationException {
        for (int cell : new int[] {0, 15}) {
            new SoundTest().set("longRow.cells." + cell, 1L).isUnsound("long cell " + cell);
        }
        for (int cell : new int[] {0, 35}) {
            new SoundTest().set("shortRow.cells." + cell, 1L).isUnsound("short cell " + cell);
        }
        new SoundTest().set("longRow.cells.1", 1L).set("longRow.cells.14", 1L).set("shortRow.cells.1", 1L)
                .set("shortRow.cells.34", 1L).isStillSound("the cells beside those that belong to none");
    }
}
