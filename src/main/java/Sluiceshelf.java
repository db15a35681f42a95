/** Numbers of 64 binary digits on a shelf, in three queues over one row, and a pipe; two lenses look at all that. */
public final class Sluiceshelf {
    private static final int LONG_CELLS = 16;
    private static final int SHORT_CELLS = 36;
    private static final int SLOTS = 6;
    private static final int FOURTHS = 4;
    private static final int FOURTH_DIGITS = 16;
    private static final int FIRST_OF_SHELF = 11;
    private static final int FIRST_OF_PIPE = 1;
    private static final int SIZE_OF_PIPE = 10;
    private static final int QUEUES = 3;
    private static final int LENSES = 2;
    private static final int MOST_AHEAD = 9;
    private static final int LEAST_FOURTH = -32768;
    private static final int GREATEST_FOURTH = 32767;

    private static final int FULL = 1;
    private static final int EMPTY = 2;
    private static final int UNMARKED = 3;
    private static final int SEALED = 4;
    private static final int BEYOND = 5;
    private static final int UNFIT = 6;

    private final Row longRow;
    private final Row shortRow;
    private final Queue ring0;
    private final Queue ring1;
    private final Queue line;
    private final Window pipeWindow;
    private boolean draining;
    private Window longLens;
    private Window shortLens;
    private final Ledger ledger;
    private final Words words;

    public Sluiceshelf() {
        longRow = new Row(new long[LONG_CELLS]);
        shortRow = new Row(new long[SHORT_CELLS]);
        ring0 = new Queue(longRow, 1, 5, true);
        ring1 = new Queue(longRow, 6, 3, true);
        line = new Queue(longRow, 9, 6, false);
        pipeWindow = new Window(shortRow, FIRST_OF_PIPE, SIZE_OF_PIPE, false);
        longLens = newLongLens(longRow);
        shortLens = newShortLens(shortRow);
        ledger = new Ledger();
        words = new Words();
    }

    // ---- the shelf

    public int lay(int slot, int upper, int lower) throws IndexOutOfBoundsException {
        checkSlot(slot);
        return ledger.done(layNumber(slot, joined(upper, lower)));
    }

    public int layFourth(int slot, int fourth, int value) throws IndexOutOfBoundsException, IllegalArgumentException {
        checkSlot(slot);
        checkFourth(fourth);
        checkValue(value);
        return ledger.done(changeFourth(slot, fourth, value) ? 1 : 0);
    }

    public int upper(int slot) throws IndexOutOfBoundsException {
        checkSlot(slot);
        return upperOf(numberIn(slot));
    }

    public int lower(int slot) throws IndexOutOfBoundsException {
        checkSlot(slot);
        return lowerOf(numberIn(slot));
    }

    public int fourth(int slot, int fourth) throws IndexOutOfBoundsException, IllegalArgumentException {
        checkSlot(slot);
        checkFourth(fourth);
        return fourthIn(slot, fourth);
    }

    public String slotText(int slot) throws IndexOutOfBoundsException {
        checkSlot(slot);
        return textOf(numberIn(slot));
    }

    // ---- the queues

    public int put(int queue, int slot) throws IndexOutOfBoundsException {
        Queue asked = queueOf(queue);
        checkSlot(slot);
        if (asked.hasNoRest()) {
            return ledger.refused(FULL);
        }
        asked.comeIn(numberIn(slot));
        return ledger.done(asked.lying());
    }

    public int take(int queue, int slot) throws IndexOutOfBoundsException {
        Queue asked = queueOf(queue);
        checkSlot(slot);
        if (asked.hasNone()) {
            return ledger.refused(EMPTY);
        }
        layNumber(slot, asked.goOut());
        return ledger.done(asked.lying());
    }

    public int look(int queue, int ahead, int slot) throws IndexOutOfBoundsException, IllegalArgumentException {
        Queue asked = queueOf(queue);
        checkSlot(slot);
        checkAhead(ahead);
        if (ahead >= asked.lying()) {
            return ledger.refused(BEYOND);
        }
        return ledger.done(layNumber(slot, asked.lyingAt(ahead)));
    }

    public int mend(int queue, int ahead, int slot) throws IndexOutOfBoundsException, IllegalArgumentException {
        Queue asked = queueOf(queue);
        checkSlot(slot);
        checkAhead(ahead);
        if (ahead >= asked.lying()) {
            return ledger.refused(BEYOND);
        }
        return ledger.done(asked.replace(ahead, numberIn(slot)) ? 1 : 0);
    }

    public int mark(int queue) throws IndexOutOfBoundsException {
        Queue asked = queueOf(queue);
        asked.setMark();
        return ledger.done(asked.reader.mark);
    }

    public int back(int queue) throws IndexOutOfBoundsException {
        Queue asked = queueOf(queue);
        if (!asked.reader.hasMark()) {
            return ledger.refused(UNMARKED);
        }
        int kept = asked.kept();
        asked.setBack();
        return ledger.done(kept);
    }

    public int forget(int queue) throws IndexOutOfBoundsException {
        Queue asked = queueOf(queue);
        if (!asked.reader.hasMark()) {
            return ledger.refused(UNMARKED);
        }
        int kept = asked.kept();
        asked.loseMark();
        return ledger.done(kept);
    }

    public int squeeze() {
        int was = line.reader.place;
        line.compact();
        return ledger.done(was);
    }

    public int empty(int queue) throws IndexOutOfBoundsException {
        Queue asked = queueOf(queue);
        int lay = asked.lying();
        asked.clear();
        return ledger.done(lay);
    }

    public int pass(int queue, int into) throws IndexOutOfBoundsException, IllegalArgumentException {
        Queue from = queueOf(queue);
        Queue to = queueOf(into);
        if (queue == into) {
            throw new IllegalArgumentException("a queue cannot pass into itself");
        }
        int most = from.lying();
        int passed = 0;
        while (passed < most && !to.hasNoRest()) {
            to.comeIn(from.goOut());
            passed++;
        }
        return ledger.done(passed);
    }

    public int poke(int queue, int how) throws IndexOutOfBoundsException, IllegalArgumentException {
        checkQueue(queue);
        checkChoice(how, 3);
        return ledger.refused(SEALED);
    }

    public int lies(int queue) throws IndexOutOfBoundsException {
        return queueOf(queue).lying();
    }

    public int room(int queue) throws IndexOutOfBoundsException {
        return queueOf(queue).freeCells();
    }

    public boolean isEmpty(int queue) throws IndexOutOfBoundsException {
        return queueOf(queue).hasNone();
    }

    public boolean isFull(int queue) throws IndexOutOfBoundsException {
        return queueOf(queue).hasNoRest();
    }

    public int place(int queue, int what) throws IndexOutOfBoundsException, IllegalArgumentException {
        Queue asked = queueOf(queue);
        checkChoice(what, 6);
        switch (what) {
            case 0:
                return asked.writer.place;
            case 1:
                return asked.writer.limit;
            case 2:
                return asked.reader.place;
            case 3:
                return asked.reader.limit;
            case 4:
                return asked.reader.mark;
            case 5:
                return asked.writer.size;
            default:
                return asked.writer.first;
        }
    }

    public String queueText(int queue) throws IndexOutOfBoundsException {
        gatherQueue(queueOf(queue));
        return words.joinedText();
    }

    // ---- the pipe

    public int pour(int slot, int fourth)
            throws IndexOutOfBoundsException, IllegalArgumentException, IllegalStateException {
        checkSlot(slot);
        checkFourth(fourth);
        checkFilling();
        if (pipeWindow.rests() == 0) {
            return ledger.refused(FULL);
        }
        pipeWindow.writeNext(fourthIn(slot, fourth));
        return ledger.done(pipeWindow.place);
    }

    public int pourAll(int slot, int from)
            throws IndexOutOfBoundsException, IllegalArgumentException, IllegalStateException {
        checkSlot(slot);
        checkFourth(from);
        checkFilling();
        int many = Math.min(FOURTHS - from, pipeWindow.rests());
        for (int k = 0; k < many; k++) {
            pipeWindow.writeNext(fourthIn(slot, from + k));
        }
        return ledger.done(many);
    }

    public int draw() throws IllegalStateException {
        checkDraining();
        if (pipeWindow.rests() == 0) {
            return ledger.refused(EMPTY);
        }
        return ledger.done((int) pipeWindow.readNext());
    }

    public int drawAll(int slot) throws IndexOutOfBoundsException, IllegalStateException {
        checkSlot(slot);
        checkDraining();
        if (pipeWindow.rests() < FOURTHS) {
            return ledger.refused(EMPTY);
        }
        int others = 0;
        for (int k = 0; k < FOURTHS; k++) {
            others += changeFourth(slot, k, pipeWindow.readNext()) ? 1 : 0;
        }
        return ledger.done(others);
    }

    public int turn() {
        if (draining) {
            pipeWindow.compact();
        } else {
            pipeWindow.flip();
        }
        draining = !draining;
        return ledger.done(pipeWindow.rests());
    }

    public int again() {
        pipeWindow.rewind();
        return ledger.done(pipeWindow.rests());
    }

    public int pipeMark() {
        pipeWindow.setMark();
        return ledger.done(pipeWindow.mark);
    }

    public int pipeBack() {
        if (!pipeWindow.hasMark()) {
            return ledger.refused(UNMARKED);
        }
        pipeWindow.setBack();
        return ledger.done(pipeWindow.place);
    }

    public int pipe(int what) throws IllegalArgumentException {
        checkChoice(what, 7);
        switch (what) {
            case 0:
                return pipeWindow.place;
            case 1:
                return pipeWindow.limit;
            case 2:
                return pipeWindow.rests();
            case 3:
                return pipeWindow.size;
            case 4:
                return pipeWindow.mark;
            case 5:
                return draining ? 1 : 0;
            case 6:
                return pipeWindow.first;
            default:
                return endInPipe() - startInPipe();
        }
    }

    public String pipeText() {
        gatherPipe();
        return words.joinedText();
    }

    // ---- the lenses

    public int lensPlace(int lens, int at) throws IndexOutOfBoundsException {
        Window asked = lensOf(lens);
        if (at < 0 || at > asked.limit) {
            return ledger.refused(UNFIT);
        }
        asked.setPlace(at);
        return ledger.done(asked.rests());
    }

    public int lensLimit(int lens, int at) throws IndexOutOfBoundsException {
        Window asked = lensOf(lens);
        if (at < 0 || at > asked.size) {
            return ledger.refused(UNFIT);
        }
        asked.setLimit(at);
        return ledger.done(asked.rests());
    }

    public int lensTurn(int lens, int how) throws IndexOutOfBoundsException, IllegalArgumentException {
        Window asked = lensOf(lens);
        checkChoice(how, 5);
        if (how == 4 && !asked.hasMark()) {
            return ledger.refused(UNMARKED);
        }
        if (how == 5 && asked.isSealed) {
            return ledger.refused(SEALED);
        }
        turnWindow(asked, how);
        return ledger.done(asked.place);
    }

    public int lensMake(int lens, int how) throws IndexOutOfBoundsException, IllegalArgumentException {
        Window asked = lensOf(lens);
        checkChoice(how, 3);
        Window made = madeOf(lens, asked, how);
        useAsLens(lens, made);
        return ledger.done(made.size);
    }

    public int lensCut(int lens, int from, int many) throws IndexOutOfBoundsException {
        Window asked = lensOf(lens);
        if (from < 0 || from > asked.limit || many < 0 || many > asked.limit - from) {
            return ledger.refused(BEYOND);
        }
        useAsLens(lens, asked.cut(from, many));
        return ledger.done(many);
    }

    public int lens(int lens, int what) throws IndexOutOfBoundsException, IllegalArgumentException {
        Window asked = lensOf(lens);
        checkChoice(what, 8);
        switch (what) {
            case 0:
                return asked.place;
            case 1:
                return asked.limit;
            case 2:
                return asked.size;
            case 3:
                return asked.rests();
            case 4:
                return asked.mark;
            case 5:
                return asked.isSealed ? 1 : 0;
            case 6:
                return asked.isSealed ? 0 : 1;
            case 7:
                return 0;
            default:
                return asked.isSealed ? -1 : asked.first;
        }
    }

    public int nextLong(int slot) throws IndexOutOfBoundsException {
        checkSlot(slot);
        if (longLens.rests() == 0) {
            return ledger.refused(EMPTY);
        }
        return ledger.done(layNumber(slot, longLens.readNext()));
    }

    public int longAt(int at, int slot) throws IndexOutOfBoundsException {
        checkSlot(slot);
        if (at < 0 || at >= longLens.limit) {
            return ledger.refused(BEYOND);
        }
        return ledger.done(layNumber(slot, longLens.readAt(at)));
    }

    public int nextShort() {
        if (shortLens.rests() == 0) {
            return ledger.refused(EMPTY);
        }
        return ledger.done((int) shortLens.readNext());
    }

    public int shortAt(int at) {
        if (at < 0 || at >= shortLens.limit) {
            return ledger.refused(BEYOND);
        }
        return ledger.done((int) shortLens.readAt(at));
    }

    public int putNext(int value) throws IllegalArgumentException {
        checkValue(value);
        if (shortLens.isSealed) {
            return ledger.refused(SEALED);
        }
        if (shortLens.rests() == 0) {
            return ledger.refused(FULL);
        }
        return ledger.done(shortLens.writeNext(value) ? 1 : 0);
    }

    public int putAt(int at, int value) throws IllegalArgumentException {
        checkValue(value);
        if (at < 0 || at >= shortLens.limit) {
            return ledger.refused(BEYOND);
        }
        if (shortLens.isSealed) {
            return ledger.refused(SEALED);
        }
        return ledger.done(shortLens.writeAt(at, value) ? 1 : 0);
    }

    // ---- the whole

    public String cellText(int cell) throws IndexOutOfBoundsException {
        if (cell < 0 || cell >= LONG_CELLS) {
            throw new IndexOutOfBoundsException("no such cell");
        }
        return textOf(longRow.read(cell));
    }

    public int house(int what) throws IllegalArgumentException {
        checkChoice(what, 7);
        return ledger.told(what);
    }

    public int knock() {
        return ledger.knocked();
    }

    public boolean isSound() {
        return windowsAreSound() && queuesAreSound() && slotsAreSound() && shortLensIsSound() && edgesAreZero();
    }

    public long digest() {
        long sum = 7701;
        sum = withShelf(sum);
        for (int queue = 0; queue < QUEUES; queue++) {
            sum = withQueue(sum, queue);
        }
        sum = withLongRow(sum);
        sum = withPipe(sum);
        sum = withLenses(sum);
        for (int what = 0; what <= 7; what++) {
            sum = with(sum, house(what));
        }
        return with(sum, isSound() ? 1 : 0);
    }

    // ---- what a call may ask for

    private static void checkSlot(int slot) {
        if (slot < 0 || slot >= SLOTS) {
            throw new IndexOutOfBoundsException("no such slot");
        }
    }

    private static void checkQueue(int queue) {
        if (queue < 0 || queue >= QUEUES) {
            throw new IndexOutOfBoundsException("no such queue");
        }
    }

    private static void checkLens(int lens) {
        if (lens < 0 || lens >= LENSES) {
            throw new IndexOutOfBoundsException("no such lens");
        }
    }

    private static void checkFourth(int fourth) {
        if (fourth < 0 || fourth >= FOURTHS) {
            throw new IllegalArgumentException("no such fourth");
        }
    }

    private static void checkValue(int value) {
        if (value < LEAST_FOURTH || value > GREATEST_FOURTH) {
            throw new IllegalArgumentException("no fourth has this value");
        }
    }

    private static void checkAhead(int ahead) {
        if (ahead < 0 || ahead > MOST_AHEAD) {
            throw new IllegalArgumentException("ahead is not 0 to 9");
        }
    }

    private static void checkChoice(int choice, int last) {
        if (choice < 0 || choice > last) {
            throw new IllegalArgumentException("no such choice");
        }
    }

    private void checkFilling() {
        if (draining) {
            throw new IllegalStateException("the pipe is draining");
        }
    }

    private void checkDraining() {
        if (!draining) {
            throw new IllegalStateException("the pipe is filling");
        }
    }

    private Queue queueOf(int queue) {
        checkQueue(queue);
        switch (queue) {
            case 0:
                return ring0;
            case 1:
                return ring1;
            default:
                return line;
        }
    }

    private Window lensOf(int lens) {
        checkLens(lens);
        return lens == 0 ? longLens : shortLens;
    }

    // ---- numbers and slots

    private static long joined(int upper, int lower) {
        return ((long) upper << 32) | (lower & 0xFFFFFFFFL);
    }

    private static int upperOf(long number) {
        return (int) (number >> 32);
    }

    private static int lowerOf(long number) {
        return (int) number;
    }

    private static short fourthOf(long number, int fourth) {
        return (short) (number >> (FOURTH_DIGITS * (FOURTHS - 1 - fourth)));
    }

    private static int cellOf(int slot, int fourth) {
        return FIRST_OF_SHELF + FOURTHS * slot + fourth;
    }

    private int fourthIn(int slot, int fourth) {
        return (int) shortRow.read(cellOf(slot, fourth));
    }

    private long numberIn(int slot) {
        long number = 0;
        for (int k = 0; k < FOURTHS; k++) {
            number = (number << FOURTH_DIGITS) | (fourthIn(slot, k) & 0xFFFF);
        }
        return number;
    }

    /** Answers whether another one was there. */
    private boolean changeFourth(int slot, int fourth, long value) {
        return shortRow.write(cellOf(slot, fourth), value);
    }

    private int layNumber(int slot, long number) {
        int others = 0;
        for (int k = 0; k < FOURTHS; k++) {
            others += changeFourth(slot, k, fourthOf(number, k)) ? 1 : 0;
        }
        return others;
    }

    // ---- texts

    private String textOf(long value) {
        words.start();
        words.add(value);
        return words.joinedText();
    }

    private void gatherQueue(Queue asked) {
        words.start();
        int many = asked.lying();
        for (int ahead = 0; ahead < many; ahead++) {
            words.add(asked.lyingAt(ahead));
        }
    }

    private void gatherPipe() {
        words.start();
        int end = endInPipe();
        for (int cell = startInPipe(); cell < end; cell++) {
            words.add(pipeWindow.readAt(cell));
        }
    }

    private int startInPipe() {
        return draining ? pipeWindow.place : 0;
    }

    private int endInPipe() {
        return draining ? pipeWindow.limit : pipeWindow.place;
    }

    // ---- lenses

    private static Window newLongLens(Row row) {
        Window made = new Window(row, 0, LONG_CELLS, true);
        made.setLimit(LONG_CELLS - 1);
        made.setPlace(1);
        return made;
    }

    private static Window newShortLens(Row row) {
        return new Window(row, FIRST_OF_SHELF, SLOTS * FOURTHS, false);
    }

    private static void turnWindow(Window asked, int how) {
        switch (how) {
            case 0:
                asked.clear();
                break;
            case 1:
                asked.flip();
                break;
            case 2:
                asked.rewind();
                break;
            case 3:
                asked.setMark();
                break;
            case 4:
                asked.setBack();
                break;
            default:
                asked.compact();
                break;
        }
    }

    private Window madeOf(int lens, Window asked, int how) {
        switch (how) {
            case 0:
                return asked.twin(asked.isSealed);
            case 1:
                return asked.cut(asked.place, asked.rests());
            case 2:
                return asked.twin(true);
            default:
                return lens == 0 ? newLongLens(longRow) : newShortLens(shortRow);
        }
    }

    private void useAsLens(int lens, Window made) {
        if (lens == 0) {
            longLens = made;
        } else {
            shortLens = made;
        }
    }

    // ---- soundness

    private boolean windowsAreSound() {
        return pipeWindow.isOrdered() && longLens.isOrdered() && shortLens.isOrdered();
    }

    private boolean queuesAreSound() {
        return ring0.isOrdered() && ring1.isOrdered() && line.isOrdered()
                && ring0.readsAlike(longRow) && ring1.readsAlike(longRow) && line.readsAlike(longRow);
    }

    private boolean slotsAreSound() {
        for (int slot = 0; slot < SLOTS; slot++) {
            long number = numberIn(slot);
            for (int k = 0; k < FOURTHS; k++) {
                if (fourthOf(number, k) != shortRow.read(cellOf(slot, k))) {
                    return false;
                }
            }
        }
        return true;
    }

    private boolean shortLensIsSound() {
        return shortLens.isSealed || shortLens.readsAlike(shortRow);
    }

    private boolean edgesAreZero() {
        return longRow.read(0) == 0 && longRow.read(LONG_CELLS - 1) == 0
                && shortRow.read(0) == 0 && shortRow.read(SHORT_CELLS - 1) == 0;
    }

    // ---- the checksum

    private static long with(long sum, long value) {
        return sum * 31 + value;
    }

    private long withShelf(long before) {
        long sum = before;
        for (int slot = 0; slot < SLOTS; slot++) {
            sum = with(with(sum, upper(slot)), lower(slot));
        }
        return sum;
    }

    private long withQueue(long before, int queue) {
        long sum = with(with(before, lies(queue)), room(queue));
        for (int what = 0; what <= 6; what++) {
            sum = with(sum, place(queue, what));
        }
        gatherQueue(queueOf(queue));
        return with(sum, words.length());
    }

    private long withLongRow(long before) {
        long sum = before;
        for (int cell = 0; cell < LONG_CELLS; cell++) {
            long number = longRow.read(cell);
            sum = with(with(sum, upperOf(number)), lowerOf(number));
        }
        return sum;
    }

    private long withPipe(long before) {
        long sum = before;
        for (int what = 0; what <= 7; what++) {
            sum = with(sum, pipe(what));
        }
        gatherPipe();
        return with(sum, words.length());
    }

    private long withLenses(long before) {
        long sum = before;
        for (int lens = 0; lens < LENSES; lens++) {
            for (int what = 0; what <= 8; what++) {
                sum = with(sum, lens(lens, what));
            }
        }
        return sum;
    }

    /** Cells in a row; both rows hold longs, so that one kind of window serves for both. */
    private static final class Row {
        private final long[] cells;

        Row(long[] cells) {
            this.cells = cells;
        }

        long read(int cell) {
            return cell >= 0 && cell < cells.length ? cells[cell] : 0;
        }

        /** Answers whether another number was there. */
        boolean write(int cell, long number) {
            if (cell < 0 || cell >= cells.length) {
                return false;
            }
            boolean other = cells[cell] != number;
            cells[cell] = number;
            return other;
        }
    }

    private static final class Window {
        private static final int NO_MARK = -1;

        final Row row;
        final int first;
        final int size;
        final boolean isSealed;
        int place;
        int limit;
        int mark;

        Window(Row row, int first, int size, boolean isSealed) {
            this.row = row;
            this.first = first;
            this.size = size;
            this.isSealed = isSealed;
            clear();
        }

        int rests() {
            return limit - place;
        }

        boolean hasMark() {
            return mark != NO_MARK;
        }

        long readAt(int cell) {
            return cell >= 0 && cell < size ? row.read(first + cell) : 0;
        }

        /** Answers whether another number was there. */
        boolean writeAt(int cell, long number) {
            return !isSealed && cell >= 0 && cell < size && row.write(first + cell, number);
        }

        long readNext() {
            if (rests() == 0) {
                return 0;
            }
            long number = readAt(place);
            place++;
            return number;
        }

        /** Answers whether another number was there. */
        boolean writeNext(long number) {
            if (isSealed || rests() == 0) {
                return false;
            }
            boolean other = writeAt(place, number);
            place++;
            return other;
        }

        void setPlace(int to) {
            place = to;
            if (mark > to) {
                mark = NO_MARK;
            }
        }

        void setLimit(int to) {
            limit = to;
            place = Math.min(place, to);
            if (mark > to) {
                mark = NO_MARK;
            }
        }

        void setMark() {
            mark = place;
        }

        void setBack() {
            if (hasMark()) {
                place = mark;
            }
        }

        void loseMark() {
            mark = NO_MARK;
        }

        void clear() {
            place = 0;
            limit = size;
            mark = NO_MARK;
        }

        void flip() {
            limit = place;
            rewind();
        }

        void rewind() {
            place = 0;
            mark = NO_MARK;
        }

        void compact() {
            if (isSealed) {
                return;
            }
            int many = rests();
            // forward, so that no cell is overwritten before it has moved
            for (int cell = 0; cell < many; cell++) {
                writeAt(cell, readAt(place + cell));
            }
            clear();
            place = many;
        }

        Window twin(boolean sealTwin) {
            Window made = new Window(row, first, size, sealTwin);
            made.place = place;
            made.limit = limit;
            made.mark = mark;
            return made;
        }

        Window cut(int from, int many) {
            return new Window(row, first + from, many, isSealed);
        }

        boolean isOrdered() {
            return NO_MARK <= mark && mark <= place && place <= limit && limit <= size;
        }

        /** Answers whether the cells of that row are what this reads. */
        boolean readsAlike(Row asked) {
            for (int cell = 0; cell < size; cell++) {
                if (readAt(cell) != asked.read(first + cell)) {
                    return false;
                }
            }
            return true;
        }
    }

    private static final class Queue {
        final Window writer;
        final Window reader;
        private final boolean isRing;
        private boolean isAround;

        Queue(Row row, int first, int size, boolean isRing) {
            writer = new Window(row, first, size, false);
            reader = new Window(row, first, size, true);
            this.isRing = isRing;
            clear();
        }

        void clear() {
            writer.clear();
            reader.clear();
            reader.setLimit(0);
            isAround = false;
        }

        int oldest() {
            return reader.mark < 0 ? reader.place : reader.mark;
        }

        int kept() {
            return reader.place - oldest();
        }

        int lying() {
            return reader.rests() + (isAround ? writer.place : 0);
        }

        int freeCells() {
            return writer.rests() + (isRing && !isAround ? oldest() : 0);
        }

        boolean hasNone() {
            return reader.rests() == 0;
        }

        boolean hasNoRest() {
            return writer.rests() == 0;
        }

        void comeIn(long number) {
            writer.writeNext(number);
            settle();
        }

        long goOut() {
            long number = reader.readNext();
            settle();
            return number;
        }

        void setMark() {
            reader.setMark();
            settle();
        }

        void setBack() {
            reader.setBack();
            settle();
        }

        void loseMark() {
            reader.loseMark();
            settle();
        }

        long lyingAt(int ahead) {
            return reader.readAt(cellAt(ahead));
        }

        /** Answers whether another number lay there. */
        boolean replace(int ahead, long number) {
            return writer.writeAt(cellAt(ahead), number);
        }

        /** Only for the line: of a ring, some may lie in the cells ahead of the reader's place. */
        void compact() {
            // the reader is sealed, so the writer stands in for it
            writer.setLimit(reader.limit);
            writer.setPlace(reader.place);
            writer.compact();
            reader.rewind();
            settle();
        }

        private int cellAt(int ahead) {
            int untilEnd = reader.rests();
            return ahead < untilEnd ? reader.place + ahead : ahead - untilEnd;
        }

        private void settle() {
            if (isRing) {
                goAround();
            }
            reader.setLimit(isAround ? reader.size : writer.place);
            writer.setLimit(isAround ? oldest() : writer.size);
        }

        private void goAround() {
            if (writer.place == writer.size) {
                writer.rewind();
                isAround = true;
            } else if (isAround && reader.place == reader.size) {
                reader.rewind();
                isAround = false;
            }
        }

        boolean isOrdered() {
            return writer.isOrdered() && reader.isOrdered() && (isRing ? isOrderedRing() : isOrderedLine());
        }

        boolean readsAlike(Row asked) {
            return writer.readsAlike(asked) && reader.readsAlike(asked);
        }

        private boolean isOrderedRing() {
            boolean writerAtSize = writer.limit == writer.size;
            boolean readerAtSize = reader.limit == reader.size;
            return !(hasNone() && hasNoRest()) && writerAtSize != readerAtSize
                    && lying() + kept() + freeCells() == writer.size;
        }

        private boolean isOrderedLine() {
            return lying() + freeCells() + reader.place == writer.size;
        }
    }

    /** Counts what was done (at 0), each kind of refusal (at its number), and the knocks (at the end). */
    private static final class Ledger {
        private static final int ACTS = 0;
        private static final int KNOCKS = 7;
        private static final int REFUSAL = -70000;

        private final int[] counts = new int[KNOCKS + 1];

        int done(int answer) {
            counts[ACTS]++;
            return answer;
        }

        int refused(int kind) {
            if (kind > ACTS && kind < KNOCKS) {
                counts[kind]++;
            }
            return REFUSAL - kind;
        }

        int knocked() {
            counts[KNOCKS]++;
            return counts[KNOCKS];
        }

        int told(int what) {
            return what >= ACTS && what <= KNOCKS ? counts[what] : 0;
        }
    }

    /** Numbers in decimal digits with " " between, in one builder that serves for all texts. */
    private static final class Words {
        private static final int MOST_DIGITS = 19;

        private final StringBuilder text = new StringBuilder();
        private final char[] digits = new char[MOST_DIGITS];

        void start() {
            text.setLength(0);
        }

        void add(long value) {
            if (text.length() > 0) {
                text.append(' ');
            }
            if (value < 0) {
                text.append('-');
            }
            for (int at = findDigits(value); at < digits.length; at++) {
                text.append(digits[at]);
            }
        }

        int length() {
            return text.length();
        }

        String joinedText() {
            return text.toString();
        }

        /** Answers where the first digit stands. */
        private int findDigits(long value) {
            int start = digits.length - 1;
            long rest = value;
            for (int at = digits.length - 1; at >= 0; at--) {
                // digit by digit, as the least number has no opposite
                int digit = Math.abs((int) (rest % 10));
                digits[at] = (char) ('0' + digit);
                start = digit == 0 ? start : at;
                rest = rest / 10;
            }
            return start;
        }
    }
}
