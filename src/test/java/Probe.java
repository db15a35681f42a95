import java.util.Objects;

/** Calls of one object of Sluiceshelf, each with the answer that is due and what it must leave as it was. */
final class Probe {
    static final int FULL = 1;
    static final int EMPTY = 2;
    static final int UNMARKED = 3;
    static final int SEALED = 4;
    static final int BEYOND = 5;
    static final int UNFIT = 6;
    static final Class<?> INDEX = IndexOutOfBoundsException.class;
    static final Class<?> ARGUMENT = IllegalArgumentException.class;
    static final Class<?> STATE = IllegalStateException.class;

    private static int wrong = 0;

    interface Call {
        Object of(Sluiceshelf x);
    }

    private final Sluiceshelf x = new Sluiceshelf();
    private final String about;

    Probe(String about) {
        this.about = about;
    }

    static void end() {
        System.out.println(wrong == 0 ? "all answers are as due" : wrong + " answers are not as due");
        if (wrong != 0) {
            System.exit(1);
        }
    }

    static void due(String about, Object got, Object want) {
        if (!Objects.equals(got, want)) {
            wrong++;
            System.out.println(about + ": answered " + got + ", due is " + want);
        }
    }

    /** Does what only prepares the next step. */
    Probe with(Call call) {
        call.of(x);
        return this;
    }

    /** An act that must answer this and be counted as done, and as nothing else. */
    Probe act(Object want, Call call) {
        String before = house();
        int acts = x.house(0);
        due(about, call.of(x), want);
        due(about + ", acts", x.house(0), acts + 1);
        due(about + ", counted besides", house(), before);
        return sound();
    }

    /** A call that must answer this and change nothing. */
    Probe tells(Object want, Call call) {
        String before = all();
        due(about, call.of(x), want);
        due(about + ", changed", all(), before);
        return sound();
    }

    /** A call that must be refused by this kind, with that counted once and nothing else changed. */
    Probe refused(int kind, Call call) {
        String before = state();
        int[] counts = counts();
        due(about, call.of(x), -70000 - kind);
        due(about + ", changed by a refusal", state(), before);
        counts[kind]++;
        for (int what = 0; what < counts.length; what++) {
            due(about + ", house(" + what + ") with a refusal", x.house(what), counts[what]);
        }
        return sound();
    }

    /** A call that must throw just this and change nothing. */
    Probe thrown(Class<?> kind, Call call) {
        String before = all();
        Class<?> got = null;
        try {
            call.of(x);
        } catch (RuntimeException e) {
            got = e.getClass();
        }
        due(about + ", thrown", got, kind);
        due(about + ", changed by a throw", all(), before);
        return sound();
    }

    private Probe sound() {
        due(about + ", isSound", x.isSound(), true);
        return this;
    }

    private int[] counts() {
        int[] counts = new int[8];
        for (int what = 0; what < 8; what++) {
            counts[what] = x.house(what);
        }
        return counts;
    }

    private String house() {
        StringBuilder text = new StringBuilder();
        for (int what = 1; what < 8; what++) {
            text.append(x.house(what)).append(' ');
        }
        return text.toString();
    }

    private String all() {
        return state() + " house " + x.house(0) + " " + house();
    }

    private String state() {
        StringBuilder text = new StringBuilder();
        for (int slot = 0; slot < 6; slot++) {
            text.append(x.slotText(slot)).append(' ');
        }
        for (int queue = 0; queue < 3; queue++) {
            text.append("queue ").append(x.queueText(queue)).append(" places ");
            for (int what = 0; what < 7; what++) {
                text.append(x.place(queue, what)).append(' ');
            }
        }
        for (int cell = 0; cell < 16; cell++) {
            text.append(x.cellText(cell)).append(' ');
        }
        text.append("pipe ").append(x.pipeText()).append(" places ");
        for (int what = 0; what < 8; what++) {
            text.append(x.pipe(what)).append(' ');
        }
        for (int lens = 0; lens < 2; lens++) {
            text.append("lens ");
            for (int what = 0; what < 9; what++) {
                text.append(x.lens(lens, what)).append(' ');
            }
        }
        return text.toString();
    }
}
