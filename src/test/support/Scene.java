import java.util.ArrayList;
import java.util.List;
import java.util.NoSuchElementException;

/**
 * A run of calls, played on a new object for every question. So no object is used for more calls than the
 * document says anything about, and no question sees what the one before it has worked out.
 */
final class Scene {
    static final int MOST_CALLS = 512;
    private static final int MOST_READ_OF_STREAM = 8;
    private static final int MOST_POPPED = 100;
    private static final int PLENTY_OF_MOVES = 15000;

    /** One call whose answer is of no interest. */
    interface Step {
        void on(PersistentTrove t);
    }

    /** One call of many that differ by a number. */
    interface NumberedStep {
        void on(PersistentTrove t, int i);
    }

    /** One call with its answer. */
    interface Question {
        long on(PersistentTrove t);
    }

    private final int grain;
    private final List<Step> steps;
    private String wholePicture;

    Scene(int grain) {
        this(grain, new ArrayList<>());
    }

    private Scene(int grain, List<Step> steps) {
        this.grain = grain;
        this.steps = steps;
    }

    // ---------------------------------------------------------------- longer scenes; this one stays

    Scene with(Step... more) {
        List<Step> longer = new ArrayList<>(steps);
        longer.addAll(List.of(more));
        if (longer.size() >= MOST_CALLS) {
            throw new IllegalStateException("a scene of " + longer.size() + " calls leaves none for a question");
        }
        return new Scene(grain, longer);
    }

    Scene times(int n, Step step) {
        return each(n, (t, i) -> step.on(t));
    }

    /** With the same call for 0 .. n - 1. */
    Scene each(int n, NumberedStep step) {
        Step[] all = new Step[n];
        for (int i = 0; i < n; i++) {
            int number = i;
            all[i] = t -> step.on(t, number);
        }
        return with(all);
    }

    /** With a call that may throw. */
    Scene tried(Step step) {
        return with(t -> {
            try {
                step.on(t);
            } catch (RuntimeException e) {
                return;
            }
        });
    }

    /** The slot holds these: a MAP or a TREE has the key's tenfold for each key, a STREAM is turned of them. */
    Scene holding(int slot, int kind, long... elements) {
        boolean pairs = kind == Boundary.MAP || kind == Boundary.TREE;
        boolean stream = kind == Boundary.STREAM;
        Scene scene = with(t -> t.make(slot, stream ? Boundary.SEQUENCE : kind));
        for (long element : elements) {
            scene = scene.with(t -> {
                if (pairs) {
                    t.put(slot, slot, element, 10 * element);
                } else {
                    t.add(slot, slot, element);
                }
            });
        }
        return stream ? scene.with(t -> t.turn(slot, slot)) : scene;
    }

    /** The STREAM 0, 1, 2, .. */
    Scene numbers(int slot) {
        return with(t -> t.iterate(slot, 0, 0, 1));
    }

    /** The SEQUENCE 0 .. 999; takes 1999 MOVES and 999 CALLS. */
    Scene thousand(int slot) {
        return numbers(slot).with(t -> t.list(slot, slot, 1000));
    }

    /** SEQUENCE, QUEUE or HEAP of this size, by doubling it; the last that was added is the size. */
    Scene grown(int slot, int kind, int size) {
        Scene scene = with(t -> t.make(slot, kind));
        for (int bit = 31 - Integer.numberOfLeadingZeros(size); bit >= 0; bit--) {
            int now = size >> bit;
            if (now > 1) {
                scene = scene.with(t -> t.join(slot, slot, slot));
            }
            if ((now & 1) != 0) {
                scene = scene.with(t -> t.add(slot, slot, now));
            }
        }
        return scene;
    }

    /** So many MOVES are left; slot 22 is used for it, and a CALL is counted for each that is not. */
    Scene leaving(int moves) {
        int spent = 20000 - moves - (int) ask(t -> t.count(Boundary.MOVES));
        return numbers(22).with(t -> t.at(22, spent));
    }

    // ---------------------------------------------------------------- questions

    PersistentTrove played() {
        PersistentTrove t = new PersistentTrove(grain);
        for (Step step : steps) {
            step.on(t);
        }
        return t;
    }

    long ask(Question question) {
        return question.on(played());
    }

    /** The answer, or the exception's name. */
    private static String outcome(PersistentTrove t, Question question) {
        try {
            return Long.toString(question.on(t));
        } catch (RuntimeException e) {
            boolean machine = "/ by zero".equals(e.getMessage());
            return machine ? "the machine's own exception" : e.getClass().getSimpleName();
        }
    }

    private static Question asked(Step step) {
        return t -> {
            step.on(t);
            return 0;
        };
    }

    void due(long want, Question question) {
        Reader reader = new Reader();
        String got = reader.ask(question);
        if (!got.equals(Long.toString(want))) {
            Boundary.tell("answered " + got + ", due is " + want);
        }
        if (reader.left > 0 && reader.t.count(Boundary.UNSOUND) != 0) {
            Boundary.tell("a collection is not in order within");
        }
    }

    void goesWell(Step step) {
        due(0, asked(step));
    }

    void dueCounts(long calls, long moves) {
        due(calls, t -> t.count(Boundary.CALLS));
        due(moves, t -> t.count(Boundary.MOVES));
    }

    /** The call throws this; of what it changes nothing is said. */
    void fails(Class<?> want, Step step) {
        String got = outcome(played(), asked(step));
        if (!got.equals(want.getSimpleName())) {
            Boundary.tell("answered " + got + ", due is " + want.getSimpleName());
        }
    }

    /** The call throws this, and changes nothing at all. */
    void refuses(Class<?> want, Step step) {
        fails(want, step);
        if (wholePicture == null) {
            wholePicture = picture(true, MOST_READ_OF_STREAM);
        }
        tellChange(wholePicture, tried(step).picture(true, MOST_READ_OF_STREAM));
    }

    /** The call throws this, and changes nothing but that so many CALLS, and MOVES for CELLS, are counted. */
    void refusesCounting(int calls, int moves, Class<?> want, Step step) {
        fails(want, step);
        Scene after = tried(step);
        // What a STREAM is can't be seen any more where the MOVES end.
        int read = after.ask(t -> t.count(Boundary.MOVES)) > PLENTY_OF_MOVES ? 1 : MOST_READ_OF_STREAM;
        tellChange(picture(false, read), after.picture(false, read));
        after.dueCounts(calls + ask(t -> t.count(Boundary.CALLS)), moves + ask(t -> t.count(Boundary.MOVES)));
    }

    private static void tellChange(String before, String after) {
        String[] old = before.split("\n");
        String[] now = after.split("\n");
        for (int i = 0; i < Math.max(old.length, now.length); i++) {
            String one = i < old.length ? old[i] : "nothing";
            String other = i < now.length ? now[i] : "nothing";
            if (!one.equals(other)) {
                Boundary.tell("the refused call changed " + one + " to " + other);
                return;
            }
        }
    }

    /** All that the slot holds, to its end: ELEMENTS, or keys in their order, or what goes when it is popped. */
    void holds(int slot, long... want) {
        StringBuilder text = new StringBuilder();
        for (long element : want) {
            text.append(' ').append(element);
        }
        String got = contents(slot, false, want.length + 1);
        if (!got.equals(text.toString())) {
            Boundary.tell("slot " + slot + " holds" + got + ", due is" + text);
        }
    }

    /** What two slots hold is the same: the kind, ELEMENTS, keys, and what these have. */
    void alike(int slot, Scene other, int otherSlot) {
        String one = described(slot, false, MOST_READ_OF_STREAM);
        String two = other.described(otherSlot, false, MOST_READ_OF_STREAM);
        if (!one.equals(two)) {
            Boundary.tell("slot " + slot + " holds " + one + ", due is " + two);
        }
    }

    // ---------------------------------------------------------------- pictures

    /** Asks for as long as the object may be used, then goes on with a new one. */
    private final class Reader {
        private PersistentTrove t;
        private int left;

        String ask(Question question) {
            if (left == 0) {
                t = played();
                left = MOST_CALLS - steps.size();
            }
            left--;
            return outcome(t, question);
        }
    }

    /** All that can be seen, of a STREAM so much; counted: CALLS and MOVES too, and which CELLS are worked out. */
    private String picture(boolean counted, int read) {
        StringBuilder text = new StringBuilder();
        Reader reader = new Reader();
        for (int what = counted ? 0 : 2; what <= 3; what++) {
            int here = what;
            text.append(" count ").append(reader.ask(t -> t.count(here)));
        }
        text.append('\n');
        for (int slot = 0; slot < 24; slot++) {
            String described = described(slot, counted, read);
            if (!described.equals("-1")) {
                text.append(slot).append(": ").append(described).append('\n');
            }
        }
        for (int b = 0; b < 4; b++) {
            text.append("builder ").append(b).append(": ").append(builder(b)).append('\n');
        }
        return text.toString();
    }

    private String builder(int b) {
        String frozen = outcome(played(), t -> t.freeze(b, 23));
        if (frozen.equals(IllegalStateException.class.getSimpleName()) || steps.size() + 1 >= MOST_CALLS) {
            return frozen;
        }
        return with(t -> t.freeze(b, 23)).described(23, true, MOST_READ_OF_STREAM);
    }

    private String described(int slot, boolean counted, int read) {
        long kind = ask(t -> t.kind(slot));
        if (kind == -1) {
            return "-1";
        }
        if (kind != Boundary.STREAM) {
            return kind + ":" + contents(slot, true, Integer.MAX_VALUE);
        }
        return kind + ":" + contents(slot, false, read) + (counted ? workedOut(slot) : "");
    }

    /** How many CALLS and MOVES each of the first ELEMENTS takes. */
    private String workedOut(int slot) {
        StringBuilder text = new StringBuilder();
        for (int i = 0; i < MOST_READ_OF_STREAM && steps.size() + 3 <= MOST_CALLS; i++) {
            int place = i;
            PersistentTrove t = played();
            int calls = t.count(Boundary.CALLS);
            int moves = t.count(Boundary.MOVES);
            t = played();
            outcome(t, trove -> trove.at(slot, place));
            text.append(' ').append(t.count(Boundary.CALLS) - calls);
            text.append('/').append(t.count(Boundary.MOVES) - moves);
        }
        return text.toString();
    }

    private String contents(int slot, boolean values, int most) {
        int kind = (int) ask(t -> t.kind(slot));
        if (kind == Boundary.QUEUE || kind == Boundary.HEAP) {
            return popped(slot, most);
        }
        boolean keys = kind == Boundary.MAP || kind == Boundary.TREE;
        StringBuilder text = new StringBuilder();
        Reader reader = new Reader();
        String none = NoSuchElementException.class.getSimpleName();
        for (int i = 0; i < most; i++) {
            int place = i;
            String element = reader.ask(t -> t.at(slot, place));
            if (element.equals(none)) {
                break;
            }
            text.append(' ').append(element);
            if (values && keys) {
                long key = Long.parseLong(element);
                text.append('=').append(reader.ask(t -> t.find(slot, key)));
            }
        }
        return text.toString();
    }

    private String popped(int slot, int most) {
        StringBuilder text = new StringBuilder();
        PersistentTrove t = played();
        String none = NoSuchElementException.class.getSimpleName();
        String size = most == Integer.MAX_VALUE ? " of " + ask(trove -> trove.size(slot)) : "";
        int pops = steps.size() + MOST_POPPED > MOST_CALLS ? 1 : MOST_POPPED;
        for (int i = 0; i < most && i < pops; i++) {
            int from = i == 0 ? slot : 23;
            String element = outcome(t, trove -> trove.pop(23, from));
            if (element.equals(none)) {
                break;
            }
            text.append(' ').append(element);
        }
        return text + size;
    }
}
