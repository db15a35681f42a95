/** What several tests ask of queues, pipe and lenses, and the runs that they begin with. */
final class Told {
    private Told() {
    }

    /** Slots 0 to 5 have the numbers 1 to 6. */
    static Probe numbered(String about) {
        Probe p = new Probe(about);
        for (int i = 0; i < 6; i++) {
            int slot = i;
            p.with(x -> x.lay(slot, 0, slot + 1));
        }
        return p;
    }

    /** Slot 0 has the fourths 1 to 4, slot 1 -1 to -4. */
    static Probe fourths(String about) {
        return new Probe(about)
                .with(x -> x.lay(0, 0x00010002, 0x00030004))
                .with(x -> x.lay(1, 0xFFFFFFFE, 0xFFFDFFFC));
    }

    /** So many come in, from slot 0 on. */
    static Probe put(Probe p, int queue, int many) {
        for (int i = 0; i < many; i++) {
            int slot = i;
            p.with(x -> x.put(queue, slot));
        }
        return p;
    }

    /** So many go out, into slot 5. */
    static Probe take(Probe p, int queue, int many) {
        for (int i = 0; i < many; i++) {
            p.with(x -> x.take(queue, 5));
        }
        return p;
    }

    /** WRITER's place and limit, then READER's place, limit and mark, then size and first. */
    static void places(Probe p, int queue, Object... wants) {
        p.tellsEach((x, what) -> x.place(queue, what), wants);
    }

    static void queue(Probe p, int queue, String text, int room, boolean full, boolean empty) {
        p.tells(text, x -> x.queueText(queue)).tells(room, x -> x.room(queue));
        p.tells(text.isEmpty() ? 0 : text.split(" ").length, x -> x.lies(queue));
        p.tells(full, x -> x.isFull(queue)).tells(empty, x -> x.isEmpty(queue));
    }

    /** Place, limit, rests, size, mark, whether it drains, first, how many lie in it. */
    static void pipe(Probe p, Object... wants) {
        p.tellsEach((x, what) -> x.pipe(what), wants);
    }

    /** Place, limit, size, rests, mark, whether it is sealed, gives out, lies beyond, first. */
    static void lens(Probe p, int lens, Object... wants) {
        p.tellsEach((x, what) -> x.lens(lens, what), wants);
    }
}
