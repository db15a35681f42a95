import java.util.ArrayList;
import java.util.Arrays;
import java.util.List;
import java.util.Objects;

/**
 * A run of calls, each with the answer that is due and what it must leave as it was. Each check is made on an object of
 * its own that all steps so far are done with again: what one object answers after 512 calls is free.
 */
final class Probe {
    static final int FULL = 1;
    static final int EMPTY = 2;
    static final int UNMARKED = 3;
    static final int SEALED = 4;
    static final int BEYOND = 5;
    static final int UNFIT = 6;
    static final Class<?> INDEX = IndexOutOfBoundsException.class;
    static final Class<?> ARGUMENT = IllegalArgumentException.class;
    static final Class<?> STATE = IllegalStateException.class;

    private static final int MOST_CALLS = 512;
    /** How many calls state() and counts() make. */
    private static final int CALLS_OF_A_LOOK = 81;
    /** A check looks before and after its call, and asks isSound(). */
    private static final int MOST_STEPS = MOST_CALLS - 2 * CALLS_OF_A_LOOK - 2;

    private static int wrong = 0;

    interface Call {
        Object of(Sluiceshelf x);
    }

    /** A method that tells one of several things. */
    interface Asked {
        Object of(Sluiceshelf x, int what);
    }

    private final List<Call> steps = new ArrayList<>();
    private final String about;

    Probe(String about) {
        this.about = about;
    }

    static void end() {
        System.out.println(wrong == 0 ? "all answers are as due" : wrong + " answers are not as due");
        if (wrong != 0) {
            System.exit(1);
        }
    }

    static void due(String about, Object got, Object want) {
        if (!Objects.equals(got, want)) {
            wrong++;
            System.out.println(about + ": answered " + got + ", due is " + want);
        }
    }

    /** The same steps under a name of its own; what is added to one of both is not added to the other. */
    Probe branch(String aboutIt) {
        Probe branch = new Probe(aboutIt);
        branch.steps.addAll(steps);
        return branch;
    }

    /** Does what only prepares the next step. */
    Probe with(Call call) {
        steps.add(call);
        if (steps.size() > MOST_STEPS) {
            throw new IllegalStateException(about + ": more calls than the document lets");
        }
        return this;
    }

    /** An act that must answer this and be counted as done, and as nothing else. */
    Probe act(Object want, Call call) {
        Sluiceshelf x = replayed();
        int[] counts = counts(x);
        due(about, call.of(x), want);
        counts[0]++;
        due(about + ", what is counted with an act", Arrays.toString(counts(x)), Arrays.toString(counts));
        sound(x);
        return with(call);
    }

    /** An act that must answer this, be counted as done, and leave all else as it was. */
    Probe actWithoutChange(Object want, Call call) {
        Sluiceshelf x = replayed();
        String before = state(x);
        call.of(x);
        due(about + ", changed by an act", state(x), before);
        return act(want, call);
    }

    /** A call that must answer this and change nothing. */
    Probe tells(Object want, Call call) {
        Sluiceshelf x = replayed();
        String before = all(x);
        due(about, call.of(x), want);
        due(about + ", changed by a call that only tells", all(x), before);
        sound(x);
        return this;
    }

    /** What must be told for 0, 1, 2 and so on. */
    Probe tellsEach(Asked asked, Object... wants) {
        for (int k = 0; k < wants.length; k++) {
            int what = k;
            branch(about + ", what is told for " + what).tells(wants[k], x -> asked.of(x, what));
        }
        return this;
    }

    /** A call that must be refused by this kind, with that counted once and nothing else changed. */
    Probe refused(int kind, Call call) {
        Sluiceshelf x = replayed();
        String before = state(x);
        int[] counts = counts(x);
        due(about, call.of(x), -70000 - kind);
        due(about + ", changed by a refusal", state(x), before);
        counts[kind]++;
        due(about + ", what is counted with a refusal", Arrays.toString(counts(x)), Arrays.toString(counts));
        sound(x);
        return with(call);
    }

    /** A call that must throw just this (null: nothing) and, if it throws, change nothing. */
    Probe thrown(Class<?> kind, Call call) {
        Sluiceshelf x = replayed();
        String before = all(x);
        Class<?> got = null;
        try {
            call.of(x);
        } catch (RuntimeException e) {
            got = e.getClass();
        }
        due(about + ", thrown", got, kind);
        if (got != null) {
            due(about + ", changed by a throw", all(x), before);
        }
        sound(x);
        return this;
    }

    private Sluiceshelf replayed() {
        Sluiceshelf x = new Sluiceshelf();
        for (Call step : steps) {
            step.of(x);
        }
        return x;
    }

    private void sound(Sluiceshelf x) {
        due(about + ", isSound", x.isSound(), true);
    }

    private static int[] counts(Sluiceshelf x) {
        int[] counts = new int[8];
        for (int what = 0; what < 8; what++) {
            counts[what] = x.house(what);
        }
        return counts;
    }

    private static String all(Sluiceshelf x) {
        return state(x) + " house " + Arrays.toString(counts(x));
    }

    private static String state(Sluiceshelf x) {
        StringBuilder text = new StringBuilder();
        for (int slot = 0; slot < 6; slot++) {
            text.append(x.slotText(slot)).append(' ');
        }
        for (int queue = 0; queue < 3; queue++) {
            text.append("queue ").append(x.queueText(queue)).append(" places ");
            for (int what = 0; what < 7; what++) {
                text.append(x.place(queue, what)).append(' ');
            }
        }
        for (int cell = 0; cell < 16; cell++) {
            text.append(x.cellText(cell)).append(' ');
        }
        text.append("pipe ").append(x.pipeText()).append(" places ");
        for (int what = 0; what < 8; what++) {
            text.append(x.pipe(what)).append(' ');
        }
        for (int lens = 0; lens < 2; lens++) {
            text.append("lens ");
            for (int what = 0; what < 9; what++) {
                text.append(x.lens(lens, what)).append(' ');
            }
        }
        return text.toString();
    }
}
