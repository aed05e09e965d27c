import java.util.NoSuchElementException;
import java.util.function.LongSupplier;

/**
 * For each promise of the document: ordinary inputs, the edges that it names, and wrong inputs.
 * What a call must leave alone is looked at through a picture of the whole trove.
 */
public final class PromiseTests {
    private static final int SEQUENCE = 0;
    private static final int MAP = 1;
    private static final int SET = 2;
    private static final int TREE = 3;
    private static final int QUEUE = 4;
    private static final int HEAP = 5;
    private static final int STREAM = 6;

    private static final Class<?> ARGUMENT = IllegalArgumentException.class;
    private static final Class<?> STATE = IllegalStateException.class;
    private static final Class<?> NONE = NoSuchElementException.class;
    private static final Class<?> FULL = IndexOutOfBoundsException.class;
    private static final Class<?> DIVISION = ArithmeticException.class;
    private static final Class<?> UNSUPPORTED = UnsupportedOperationException.class;

    private static final int CALLS = 0;
    private static final int MOVES = 1;
    private static final int OPEN = 2;
    private static final int UNSOUND = 3;

    private static final int[] BAD_SLOTS = {-1, 24, Integer.MIN_VALUE, Integer.MAX_VALUE};
    private static final int[] BAD_BUILDERS = {-1, 4, Integer.MIN_VALUE, Integer.MAX_VALUE};

    private static PersistentTrove t;
    private static String promise = "";
    private static int wrong;

    public static void main(String[] args) {
        newObject();
        make();
        copy();
        size();
        kind();
        add();
        push();
        set();
        at();
        drop();
        pop();
        front();
        put();
        find();
        out();
        near();
        range();
        join();
        joinOfKeys();
        joinOfOverlapping();
        joinOfStreams();
        meet();
        shape();
        same();
        sameInOtherWays();
        map();
        mapOfStream();
        filter();
        filterOfStream();
        iterate();
        take();
        list();
        turn();
        turnOfFull();
        open();
        build();
        look();
        freeze();
        count();
        cells();
        moves();
        depth();
        readme();
        if (wrong > 0) {
            System.out.println(wrong + " answers are not as due");
            System.exit(1);
        }
    }

    // ---------------------------------------------------------------- helpers

    private static void begin(String name, int grain) {
        promise = name;
        t = new PersistentTrove(grain);
    }

    private static void tell(String text) {
        wrong++;
        StackTraceElement[] trace = new Throwable().getStackTrace();
        int line = 0;
        for (StackTraceElement element : trace) {
            if (line == 0 && !isHelper(element.getMethodName())) {
                line = element.getLineNumber();
            }
        }
        System.out.println(promise + " (line " + line + "): " + text);
    }

    private static boolean isHelper(String name) {
        return name.equals("tell") || name.equals("is") || name.equals("fails") || name.equals("failsOnly")
                || name.equals("holds") || name.equals("begins");
    }

    private static void is(long want, LongSupplier call) {
        try {
            long got = call.getAsLong();
            if (got != want) {
                tell("answered " + got + ", due is " + want);
            }
        } catch (RuntimeException e) {
            tell("threw " + e + ", due is " + want);
        }
        soundness();
    }

    private static void is(long want, boolean got) {
        is(want, () -> got ? 1 : 0);
    }

    private static void soundness() {
        if (t.count(UNSOUND) != 0) {
            tell("a collection is not in order within");
        }
    }

    /** The call throws this, and nothing has changed, CALLS and MOVES neither. */
    private static void fails(Class<?> want, Runnable call) {
        String counts = t.count(CALLS) + " calls, " + t.count(MOVES) + " moves";
        failsOnly(want, call);
        String after = t.count(CALLS) + " calls, " + t.count(MOVES) + " moves";
        if (!counts.equals(after)) {
            tell("changed " + counts + " to " + after);
        }
    }

    /** The call throws this, and nothing has changed but CALLS and MOVES of cells. */
    private static void failsOnly(Class<?> want, Runnable call) {
        String before = picture();
        Class<?> got = null;
        String message = null;
        try {
            call.run();
        } catch (RuntimeException e) {
            got = e.getClass();
            message = e.getMessage();
        }
        if (got != want) {
            tell("threw " + got + ", due is " + want);
        }
        if (message != null && message.equals("/ by zero")) {
            tell("the machine itself threw");
        }
        if (!before.equals(picture())) {
            tell("changed something, though it threw");
        }
    }

    private static String picture() {
        StringBuilder text = new StringBuilder();
        for (int slot = 0; slot < 24; slot++) {
            text.append(slot).append(':').append(pictureOf(slot)).append('\n');
        }
        return text.append(t.count(OPEN)).toString();
    }

    private static String pictureOf(int slot) {
        StringBuilder text = new StringBuilder();
        int kind = t.kind(slot);
        text.append(kind);
        if (kind == -1) {
            return text.toString();
        }
        if (kind == STREAM) {
            return text.append(' ').append(frontOrNone(slot)).toString();
        }
        int total = t.size(slot);
        text.append(' ').append(total);
        if (kind == QUEUE || kind == HEAP) {
            return text.append(' ').append(frontOrNone(slot)).toString();
        }
        for (int i = 0; i < total; i++) {
            long key = t.at(slot, i);
            text.append(' ').append(key);
            if (kind != SEQUENCE) {
                text.append('=').append(t.find(slot, key));
            }
        }
        return text.toString();
    }

    private static String frontOrNone(int slot) {
        try {
            return Long.toString(t.front(slot));
        } catch (NoSuchElementException e) {
            return "none";
        }
    }

    /** SEQUENCE: these elements; MAP, SET, TREE: these keys, in this order. */
    private static void holds(int slot, long... want) {
        is(want.length, () -> t.size(slot));
        for (int i = 0; i < want.length; i++) {
            int place = i;
            is(want[i], () -> t.at(slot, place));
        }
        fails(NONE, () -> t.at(slot, want.length));
    }

    /** QUEUE, HEAP: what goes, in this order; slot 23 is used for it. */
    private static void goes(int slot, long... want) {
        t.copy(23, slot);
        for (long element : want) {
            is(element, () -> t.front(23));
            is(element, () -> t.pop(23, 23));
        }
        is(0, () -> t.size(23));
        fails(NONE, () -> t.pop(23, 23));
    }

    /** STREAM: it is this, to its end. */
    private static void runs(int slot, long... want) {
        begins(slot, want);
        failsOnly(NONE, () -> t.at(slot, want.length));
    }

    private static void begins(int slot, long... want) {
        for (int i = 0; i < want.length; i++) {
            int place = i;
            is(want[i], () -> t.at(slot, place));
        }
    }

    private static void sequence(int slot, long... elements) {
        t.make(slot, SEQUENCE);
        for (long element : elements) {
            t.add(slot, slot, element);
        }
    }

    private static void setOf(int slot, long... keys) {
        t.make(slot, SET);
        for (long key : keys) {
            t.add(slot, slot, key);
        }
    }

    /** MAP or TREE: keys and values by turns. */
    private static void entries(int slot, int kind, long... keysAndValues) {
        t.make(slot, kind);
        for (int i = 0; i < keysAndValues.length; i += 2) {
            t.put(slot, slot, keysAndValues[i], keysAndValues[i + 1]);
        }
    }

    private static void queueOf(int slot, int kind, long... elements) {
        t.make(slot, kind);
        for (long element : elements) {
            t.add(slot, slot, element);
        }
    }

    /** The STREAM 0, 1, 2, .. */
    private static void numbers(int slot) {
        t.iterate(slot, 0, 0, 1);
    }

    /** A SEQUENCE 0, 1, .. of this length, made in a way that takes no moves. */
    private static void longSequence(int slot, int length) {
        t.make(slot, SEQUENCE);
        t.open(3, slot);
        for (int i = 0; i < length; i++) {
            t.build(3, 0, 0, i);
        }
        t.freeze(3, slot);
    }

    private static void longSet(int slot, int length) {
        t.make(slot, SET);
        t.open(3, slot);
        for (int i = 0; i < length; i++) {
            t.build(3, 0, i, 0);
        }
        t.freeze(3, slot);
    }

    /** Leaves so many moves before FULL. */
    private static void leaveMoves(int left) {
        longSequence(22, 1000);
        t.make(23, SEQUENCE);
        int last = 20000 - left - t.count(MOVES);
        for (int i = 0; i < last / 1000; i++) {
            t.same(22, 23);
        }
        t.drop(22, 22, 1000 - last % 1000, true);
        t.same(22, 23);
        is(20000 - left, () -> t.count(MOVES));
    }

    private static int node(int keyBits, int nodeBits, int... below) {
        int s = 17;
        s = 31 * s + keyBits;
        s = 31 * s + nodeBits;
        for (int shape : below) {
            s = 31 * s + shape;
        }
        return s;
    }

    private static void oneOfEach() {
        for (int kind = 0; kind <= STREAM; kind++) {
            t.make(kind, kind);
        }
    }

    /** Slots 0 .. 6 hold one of each kind; the others hold none. */
    private static void onlyKinds(Kinded call, int... kinds) {
        oneOfEach();
        for (int kind = -1; kind <= STREAM; kind++) {
            boolean fine = false;
            for (int one : kinds) {
                fine = fine || one == kind;
            }
            int slot = kind < 0 ? 20 : kind;
            if (!fine) {
                fails(STATE, () -> call.on(slot));
            }
        }
    }

    private interface Kinded {
        void on(int slot);
    }

    private static void badSlots(Kinded call) {
        for (int bad : BAD_SLOTS) {
            fails(ARGUMENT, () -> call.on(bad));
        }
    }

    // ---------------------------------------------------------------- promises

    private static void newObject() {
        int[] grains = {0, 1, 2, 3, 4, 5, -1, -2, -3, Integer.MAX_VALUE, Integer.MIN_VALUE};
        int[] remainders = {0, 1, 2, 0, 1, 2, 2, 1, 0, 1, 1};
        for (int i = 0; i < grains.length; i++) {
            begin("promise 1", grains[i]);
            for (int slot = 0; slot < 24; slot++) {
                int place = slot;
                is(-1, () -> t.kind(place));
            }
            is(0, () -> t.count(OPEN));
            is(0, () -> t.count(CALLS));
            is(0, () -> t.count(MOVES));
            setOf(0, 0, 256);
            int deep = 9;
            for (int level = 6; level >= 0; level--) {
                deep = node(0, 1, deep);
            }
            // 0 and 256 differ in bit 8 alone: of level 1 in GRAIN 0, and nowhere in the others.
            int want = remainders[i] == 0 ? node(0, 1, node(1 | 1 << 8, 0)) : deep;
            is(want, () -> t.shape(0));
            setOf(1, 0, 1);
            int apart = node(3, 0);
            int wantOne = remainders[i] == 2 ? deep : apart;
            is(wantOne, () -> t.shape(1));
        }
    }

    private static void make() {
        begin("promise 2", 0);
        for (int kind = 0; kind <= STREAM; kind++) {
            int due = kind;
            t.make(kind, kind);
            is(due, () -> t.kind(due));
        }
        sequence(7, 1, 2);
        t.make(7, SEQUENCE);
        holds(7);
        t.make(23, HEAP);
        is(0, () -> t.size(23));
        badSlots(slot -> t.make(slot, 0));
        fails(ARGUMENT, () -> t.make(0, -1));
        fails(ARGUMENT, () -> t.make(0, 7));
        fails(ARGUMENT, () -> t.make(24, 7));
        fails(NONE, () -> t.front(6));
    }

    private static void copy() {
        begin("promise 3", 0);
        sequence(0, 1, 2, 3);
        t.copy(1, 0);
        holds(1, 1, 2, 3);
        t.set(0, 0, 1, 9);
        holds(1, 1, 2, 3);
        holds(0, 1, 9, 3);
        t.copy(1, 1);
        holds(1, 1, 2, 3);
        fails(STATE, () -> t.copy(2, 3));
        fails(STATE, () -> t.copy(3, 3));
        badSlots(slot -> t.copy(slot, 0));
        badSlots(slot -> t.copy(0, slot));
        fails(ARGUMENT, () -> t.copy(24, 9));
        numbers(4);
        t.copy(5, 4);
        is(3, () -> t.at(5, 3));
        int calls = t.count(CALLS);
        is(3, () -> t.at(4, 3));
        is(calls, () -> t.count(CALLS));
    }

    private static void size() {
        begin("promise 4", 0);
        oneOfEach();
        for (int kind = 0; kind < STREAM; kind++) {
            int slot = kind;
            is(0, () -> t.size(slot));
        }
        fails(STATE, () -> t.size(STREAM));
        fails(STATE, () -> t.size(20));
        badSlots(slot -> t.size(slot));
        sequence(0, 5, 5);
        is(2, () -> t.size(0));
        setOf(1, 5, 5, 6);
        is(2, () -> t.size(1));
        entries(2, TREE, 1, 2, 1, 3);
        is(1, () -> t.size(2));
        queueOf(3, HEAP, 5, 5, 5);
        is(3, () -> t.size(3));
        queueOf(4, QUEUE, 5, 5, 5, 5);
        is(4, () -> t.size(4));
        entries(5, MAP, 1, 2, 3, 4);
        is(2, () -> t.size(5));
    }

    private static void kind() {
        begin("promise 5", 0);
        is(-1, () -> t.kind(0));
        is(-1, () -> t.kind(23));
        oneOfEach();
        is(6, () -> t.kind(6));
        is(3, () -> t.kind(3));
        badSlots(slot -> t.kind(slot));
        t.turn(1, 0);
        is(STREAM, () -> t.kind(1));
        t.list(2, 1, 5);
        is(SEQUENCE, () -> t.kind(2));
    }

    private static void add() {
        begin("promise 6", 0);
        t.make(0, SEQUENCE);
        is(1, () -> t.add(1, 0, 7));
        is(2, () -> t.add(2, 1, Long.MIN_VALUE));
        holds(0);
        holds(1, 7);
        holds(2, 7, Long.MIN_VALUE);
        t.make(3, QUEUE);
        is(1, () -> t.add(3, 3, 4));
        is(2, () -> t.add(3, 3, 2));
        goes(3, 4, 2);
        t.make(4, HEAP);
        is(1, () -> t.add(4, 4, 4));
        is(2, () -> t.add(4, 4, 2));
        is(3, () -> t.add(4, 4, 4));
        goes(4, 2, 4, 4);
        t.make(5, SET);
        is(1, () -> t.add(5, 5, 4));
        is(1, () -> t.add(6, 5, 4));
        is(2, () -> t.add(6, 6, -4));
        holds(5, 4);
        holds(6, 4, -4);
        onlyKinds(slot -> t.add(10, slot, 1), SEQUENCE, QUEUE, HEAP, SET);
        badSlots(slot -> t.add(slot, 0, 1));
        badSlots(slot -> t.add(0, slot, 1));
        fails(ARGUMENT, () -> t.add(24, 20, 1));
        addWhenFull();
    }

    private static void addWhenFull() {
        begin("promise 6", 0);
        longSequence(0, 999);
        is(1000, () -> t.add(0, 0, 5));
        fails(FULL, () -> t.add(1, 0, 5));
        longSet(1, 1000);
        fails(FULL, () -> t.add(1, 1, 1000));
        is(1000, () -> t.add(2, 1, 999));
        t.make(3, QUEUE);
        t.make(4, HEAP);
        for (int i = 0; i < 1000; i++) {
            t.add(3, 3, i);
            t.add(4, 4, -i);
        }
        fails(FULL, () -> t.add(3, 3, 5));
        fails(FULL, () -> t.add(4, 4, 5));
        is(0, () -> t.front(3));
        is(-999, () -> t.front(4));
        setOf(5);
        for (long i = 0; i < 16; i++) {
            t.add(5, 5, i << 32 | 77);
        }
        fails(FULL, () -> t.add(5, 5, 16L << 32 | 77));
        is(16, () -> t.add(5, 5, 15L << 32 | 77));
        is(17, () -> t.add(5, 5, 78));
        is(16, () -> t.out(5, 5, 77));
        is(17, () -> t.add(5, 5, 16L << 32 | 77));
    }

    private static void push() {
        begin("promise 7", 0);
        sequence(0, 2, 3);
        t.push(1, 0, 1);
        holds(1, 1, 2, 3);
        holds(0, 2, 3);
        t.push(1, 1, 0);
        holds(1, 0, 1, 2, 3);
        numbers(2);
        t.push(3, 2, -1);
        is(0, () -> t.count(MOVES));
        is(-1, () -> t.front(3));
        is(0, () -> t.at(3, 1));
        // What stands behind a pushed one is known already: no cell is worked out for it.
        is(0, () -> t.count(MOVES));
        is(1, () -> t.at(3, 2));
        is(1, () -> t.count(MOVES));
        t.make(4, STREAM);
        t.push(4, 4, 8);
        runs(4, 8);
        onlyKinds(slot -> t.push(10, slot, 1), SEQUENCE, STREAM);
        badSlots(slot -> t.push(slot, 0, 1));
        badSlots(slot -> t.push(0, slot, 1));
        longSequence(5, 999);
        t.push(5, 5, 1);
        is(1000, () -> t.size(5));
        fails(FULL, () -> t.push(6, 5, 1));
        t.turn(5, 5);
        t.push(5, 5, -1);
        is(-1, () -> t.front(5));
    }

    private static void set() {
        begin("promise 8", 0);
        sequence(0, 5, 6, 7);
        is(6, () -> t.set(1, 0, 1, 60));
        holds(0, 5, 6, 7);
        holds(1, 5, 60, 7);
        is(5, () -> t.set(1, 1, 0, 50));
        is(7, () -> t.set(1, 1, 2, 70));
        holds(1, 50, 60, 70);
        fails(NONE, () -> t.set(1, 1, 3, 0));
        fails(NONE, () -> t.set(1, 1, -1, 0));
        fails(NONE, () -> t.set(1, 1, Integer.MAX_VALUE, 0));
        fails(NONE, () -> t.set(1, 1, Integer.MIN_VALUE, 0));
        onlyKinds(slot -> t.set(10, slot, 0, 1), SEQUENCE);
        fails(NONE, () -> t.set(0, 0, 0, 1));
        badSlots(slot -> t.set(slot, 0, 0, 1));
        badSlots(slot -> t.set(0, slot, 0, 1));
        longSequence(2, 1000);
        for (int i = 0; i < 1000; i += 37) {
            int place = i;
            is(place, () -> t.set(3, 2, place, -place));
            is(-place, () -> t.at(3, place));
            is(place, () -> t.at(2, place));
        }
    }

    private static void at() {
        begin("promise 9", 0);
        sequence(0, 5, 6);
        is(6, () -> t.at(0, 1));
        fails(NONE, () -> t.at(0, 2));
        fails(NONE, () -> t.at(0, Integer.MAX_VALUE));
        fails(ARGUMENT, () -> t.at(0, -1));
        fails(ARGUMENT, () -> t.at(20, -1));
        fails(STATE, () -> t.at(20, 0));
        entries(1, TREE, 5, 1, -5, 2, 0, 3);
        is(-5, () -> t.at(1, 0));
        is(5, () -> t.at(1, 2));
        fails(NONE, () -> t.at(1, 3));
        // Keys in NODE 0 go first: 33 and 2 stand before 0, 32 and 64, which are in a NODE of level 1.
        entries(2, MAP, 64, 1, 2, 2, 0, 3, 32, 4, 33, 5);
        holds(2, 33, 2, 0, 32, 64);
        setOf(3, 64, 31, 32, 0, 1L << 32);
        holds(3, 31, 32, 64, 0, 1L << 32);
        setOf(4, 1L << 32, -1L << 32, 0, 1L << 63);
        holds(4, 1L << 63, -1L << 32, 0, 1L << 32);
        t.iterate(5, 1, 1, 3);
        is(81, () -> t.at(5, 4));
        is(4, () -> t.count(CALLS));
        is(4, () -> t.count(MOVES));
        is(9, () -> t.at(5, 2));
        is(4, () -> t.count(CALLS));
        t.make(6, STREAM);
        fails(NONE, () -> t.at(6, 0));
        fails(NONE, () -> t.at(6, 5));
        t.iterate(7, 4, 4, 0);
        is(4, () -> t.at(7, 0));
        failsOnly(DIVISION, () -> t.at(7, 1));
        failsOnly(FULL, () -> t.at(5, Integer.MAX_VALUE));
        is(20000, () -> t.count(MOVES));
        badSlots(slot -> t.at(slot, 0));
        fails(ARGUMENT, () -> t.at(24, -1));
        onlyKinds(slot -> t.at(slot, 0), SEQUENCE, STREAM, MAP, SET, TREE);
    }

    private static void drop() {
        begin("promise 10", 0);
        sequence(0, 1, 2, 3, 4, 5);
        is(3, () -> t.drop(1, 0, 2, true));
        holds(1, 3, 4, 5);
        is(3, () -> t.drop(1, 0, 2, false));
        holds(1, 1, 2, 3);
        holds(0, 1, 2, 3, 4, 5);
        is(5, () -> t.drop(2, 0, 0, true));
        is(5, () -> t.drop(2, 0, 0, false));
        holds(2, 1, 2, 3, 4, 5);
        is(0, () -> t.drop(2, 0, 5, true));
        holds(2);
        is(0, () -> t.drop(2, 0, 5, false));
        fails(NONE, () -> t.drop(2, 0, 6, true));
        fails(NONE, () -> t.drop(2, 0, 6, false));
        fails(NONE, () -> t.drop(2, 0, Integer.MAX_VALUE, false));
        fails(ARGUMENT, () -> t.drop(2, 0, -1, true));
        fails(ARGUMENT, () -> t.drop(2, 20, -1, true));
        fails(ARGUMENT, () -> t.drop(2, 24, 1, true));
        fails(STATE, () -> t.drop(2, 20, 1, true));
        onlyKinds(slot -> t.drop(10, slot, 0, true), SEQUENCE);
        badSlots(slot -> t.drop(slot, 0, 0, true));
        badSlots(slot -> t.drop(0, slot, 0, true));
        longSequence(0, 1000);
        for (int n = 1; n < 1000; n += 111) {
            int left = 1000 - n;
            int gone = n;
            is(left, () -> t.drop(1, 0, gone, true));
            is(gone, () -> t.at(1, 0));
            is(999, () -> t.at(1, left - 1));
            is(left, () -> t.drop(1, 0, gone, false));
            is(0, () -> t.at(1, 0));
            is(left - 1, () -> t.at(1, left - 1));
        }
        is(0, () -> t.count(MOVES));
    }

    private static void pop() {
        begin("promise 11", 0);
        queueOf(0, QUEUE, 3, 1, 2);
        is(3, () -> t.pop(1, 0));
        goes(1, 1, 2);
        goes(0, 3, 1, 2);
        sequence(2, 3, 1, 2);
        is(2, () -> t.pop(3, 2));
        holds(3, 3, 1);
        holds(2, 3, 1, 2);
        queueOf(4, HEAP, 3, 1, 2, 1, Long.MIN_VALUE, Long.MAX_VALUE);
        is(Long.MIN_VALUE, () -> t.pop(5, 4));
        goes(5, 1, 1, 2, 3, Long.MAX_VALUE);
        is(6, () -> t.size(4));
        numbers(6);
        is(0, () -> t.pop(7, 6));
        is(1, () -> t.count(CALLS));
        is(1, () -> t.count(MOVES));
        is(1, () -> t.front(7));
        is(0, () -> t.front(6));
        is(0, () -> t.pop(7, 6));
        is(1, () -> t.count(CALLS));
        t.iterate(8, 7, 6, 0);
        failsOnly(DIVISION, () -> t.pop(8, 8));
        is(2, () -> t.count(CALLS));
        is(2, () -> t.count(MOVES));
        onlyKinds(slot -> t.pop(10, slot), QUEUE, SEQUENCE, HEAP, STREAM);
        fails(NONE, () -> t.pop(10, QUEUE));
        fails(NONE, () -> t.pop(10, SEQUENCE));
        fails(NONE, () -> t.pop(10, HEAP));
        fails(NONE, () -> t.pop(10, STREAM));
        badSlots(slot -> t.pop(slot, 0));
        badSlots(slot -> t.pop(0, slot));
        leaveMoves(0);
        numbers(0);
        fails(FULL, () -> t.pop(1, 0));
    }

    private static void front() {
        begin("promise 12", 0);
        queueOf(0, QUEUE, 3, 1, 2);
        is(3, () -> t.front(0));
        queueOf(1, HEAP, 3, 1, 2);
        is(1, () -> t.front(1));
        numbers(2);
        is(0, () -> t.front(2));
        is(0, () -> t.count(CALLS));
        onlyKinds(slot -> t.front(slot), QUEUE, HEAP, STREAM);
        fails(NONE, () -> t.front(QUEUE));
        fails(NONE, () -> t.front(HEAP));
        fails(NONE, () -> t.front(STREAM));
        badSlots(slot -> t.front(slot));
    }

    private static void put() {
        for (int kind : new int[] {MAP, TREE}) {
            begin("promise 13", 0);
            t.make(0, kind);
            is(1, () -> t.put(1, 0, 5, 50));
            is(2, () -> t.put(2, 1, Long.MIN_VALUE, 60));
            is(2, () -> t.put(3, 2, 5, 51));
            is(50, () -> t.find(2, 5));
            is(51, () -> t.find(3, 5));
            is(60, () -> t.find(3, Long.MIN_VALUE));
            is(0, () -> t.size(0));
            is(1, () -> t.size(1));
            t.make(4, kind);
            for (int i = 0; i < 1000; i++) {
                int key = i * 7919 % 1000;
                t.put(4, 4, key, -key);
            }
            fails(FULL, () -> t.put(4, 4, 1000, 0));
            is(1000, () -> t.put(4, 4, 999, 5));
            is(5, () -> t.find(4, 999));
            is(-500, () -> t.find(4, 500));
        }
        onlyKinds(slot -> t.put(10, slot, 1, 1), MAP, TREE);
        badSlots(slot -> t.put(slot, MAP, 0, 1));
        badSlots(slot -> t.put(MAP, slot, 0, 1));
        begin("promise 13", 2);
        t.make(0, MAP);
        t.make(1, TREE);
        for (int i = 0; i < 16; i++) {
            t.put(0, 0, i * 1000003, i);
            t.put(1, 1, i * 1000003, i);
        }
        fails(FULL, () -> t.put(0, 0, 1, 1));
        is(16, () -> t.put(0, 0, 1000003, 7));
        is(17, () -> t.put(1, 1, 1, 1));
    }

    private static void find() {
        begin("promise 14", 1);
        entries(0, MAP, 1, 10, 257, 20, -1, 30);
        is(10, () -> t.find(0, 1));
        is(20, () -> t.find(0, 257));
        is(30, () -> t.find(0, -1));
        fails(NONE, () -> t.find(0, 513));
        fails(NONE, () -> t.find(0, 255));
        fails(NONE, () -> t.find(0, 2));
        entries(1, TREE, 1, 10, 257, 20);
        is(20, () -> t.find(1, 257));
        fails(NONE, () -> t.find(1, 2));
        fails(NONE, () -> t.find(1, 0));
        setOf(2, 7, 263);
        is(1, () -> t.find(2, 7));
        is(1, () -> t.find(2, 263));
        fails(NONE, () -> t.find(2, 519));
        onlyKinds(slot -> t.find(slot, 1), MAP, TREE, SET);
        fails(NONE, () -> t.find(MAP, 0));
        badSlots(slot -> t.find(slot, 0));
    }

    private static void out() {
        begin("promise 15", 0);
        for (int kind : new int[] {MAP, TREE}) {
            entries(0, kind, 1, 10, 33, 20, 65, 30);
            is(2, () -> t.out(1, 0, 33));
            fails(NONE, () -> t.find(1, 33));
            is(30, () -> t.find(1, 65));
            is(20, () -> t.find(0, 33));
            is(2, () -> t.out(1, 1, 33));
            is(1, () -> t.out(1, 1, 1));
            is(0, () -> t.out(1, 1, 65));
            is(0, () -> t.out(1, 1, 65));
            is(kind, () -> t.kind(1));
        }
        setOf(2, 0, 1L << 32, 5);
        int before = t.shape(2);
        is(2, () -> t.out(3, 2, 0));
        // The key that is left alone goes up into NODE 0.
        is(node(1 | 1 << 5, 0), () -> t.shape(3));
        is(3, () -> t.add(3, 3, 0));
        is(before, () -> t.shape(3));
        is(before, () -> t.shape(2));
        t.out(3, 3, 0);
        t.out(3, 3, 5);
        t.out(3, 3, 1L << 32);
        is(node(0, 0), () -> t.shape(3));
        onlyKinds(slot -> t.out(10, slot, 1), MAP, TREE, SET);
        badSlots(slot -> t.out(slot, MAP, 1));
        badSlots(slot -> t.out(MAP, slot, 1));
        t.make(4, TREE);
        for (int i = 0; i < 1000; i++) {
            t.put(4, 4, i, i);
        }
        for (int i = 0; i < 1000; i++) {
            t.out(4, 4, i * 7919 % 1000);
            soundness();
        }
        is(0, () -> t.size(4));
    }

    private static void near() {
        begin("promise 16", 0);
        entries(0, TREE, 10, 0, 20, 0, 30, 0, Long.MIN_VALUE, 0, Long.MAX_VALUE, 0);
        long[][] due = {
            {20, 10, 20, 20, 30},
            {15, 10, 10, 20, 20},
            {10, Long.MIN_VALUE, 10, 10, 20},
            {31, 30, 30, Long.MAX_VALUE, Long.MAX_VALUE},
            {0, Long.MIN_VALUE, Long.MIN_VALUE, 10, 10},
        };
        for (long[] row : due) {
            for (int way = 0; way < 4; way++) {
                int here = way;
                is(row[way + 1], () -> t.near(0, row[0], here));
            }
        }
        fails(NONE, () -> t.near(0, Long.MIN_VALUE, 0));
        is(Long.MIN_VALUE, () -> t.near(0, Long.MIN_VALUE, 1));
        is(Long.MIN_VALUE, () -> t.near(0, Long.MIN_VALUE, 2));
        is(10, () -> t.near(0, Long.MIN_VALUE, 3));
        is(30, () -> t.near(0, Long.MAX_VALUE, 0));
        is(Long.MAX_VALUE, () -> t.near(0, Long.MAX_VALUE, 1));
        fails(NONE, () -> t.near(0, Long.MAX_VALUE, 3));
        entries(1, TREE, 5, 0);
        fails(NONE, () -> t.near(1, 5, 0));
        fails(NONE, () -> t.near(1, 4, 1));
        fails(NONE, () -> t.near(1, 6, 2));
        fails(NONE, () -> t.near(1, 5, 3));
        fails(ARGUMENT, () -> t.near(1, 5, 4));
        fails(ARGUMENT, () -> t.near(1, 5, -1));
        fails(ARGUMENT, () -> t.near(20, 5, 4));
        fails(STATE, () -> t.near(20, 5, 3));
        onlyKinds(slot -> t.near(slot, 1, 0), TREE);
        fails(NONE, () -> t.near(TREE, 0, 1));
        badSlots(slot -> t.near(slot, 1, 0));
    }

    private static void range() {
        begin("promise 17", 0);
        entries(0, TREE, 10, 1, 20, 2, 30, 3, 40, 4);
        is(2, () -> t.range(1, 0, 20, 40));
        holds(1, 20, 30);
        is(3, () -> t.find(1, 30));
        is(4, () -> t.count(MOVES));
        holds(0, 10, 20, 30, 40);
        is(3, () -> t.range(1, 0, 11, Long.MAX_VALUE));
        holds(1, 20, 30, 40);
        is(0, () -> t.range(1, 0, 20, 20));
        is(0, () -> t.range(1, 0, 30, 20));
        is(TREE, () -> t.kind(1));
        is(4, () -> t.range(1, 0, Long.MIN_VALUE, 41));
        is(20, () -> t.count(MOVES));
        is(1, () -> t.range(0, 0, 40, 41));
        holds(0, 40);
        is(24, () -> t.count(MOVES));
        onlyKinds(slot -> t.range(10, slot, 1, 2), TREE);
        badSlots(slot -> t.range(slot, TREE, 1, 2));
        badSlots(slot -> t.range(TREE, slot, 1, 2));
        entries(2, TREE, Long.MAX_VALUE, 1, 0, 2);
        is(1, () -> t.range(3, 2, 0, Long.MAX_VALUE));
        entries(4, TREE, 1, 1, 2, 2, 3, 3);
        leaveMoves(5);
        is(3, () -> t.range(5, 4, 0, 9));
        fails(FULL, () -> t.range(5, 4, 2, 2));
        is(19998, () -> t.count(MOVES));
    }

    private static void join() {
        begin("promise 18", 0);
        sequence(0, 1, 2);
        sequence(1, 3);
        is(3, () -> t.join(2, 0, 1));
        holds(2, 1, 2, 3);
        is(3, () -> t.count(MOVES));
        is(4, () -> t.join(0, 0, 0));
        holds(0, 1, 2, 1, 2);
        is(7, () -> t.count(MOVES));
        queueOf(3, QUEUE, 5, 4);
        queueOf(4, QUEUE, 6);
        is(3, () -> t.join(5, 3, 4));
        goes(5, 5, 4, 6);
        is(10, () -> t.count(MOVES));
        queueOf(6, HEAP, 5, 4);
        queueOf(7, HEAP, 4, 6);
        is(4, () -> t.join(8, 6, 7));
        goes(8, 4, 4, 5, 6);
        goes(6, 4, 5);
        goes(7, 4, 6);
        is(10, () -> t.count(MOVES));
        for (int one = 0; one <= STREAM; one++) {
            for (int other = -1; other <= STREAM; other++) {
                oneOfEach();
                int a = one;
                int b = other < 0 ? 20 : other;
                if (one != other) {
                    fails(STATE, () -> t.join(10, a, b));
                    fails(STATE, () -> t.join(10, b, a));
                }
            }
        }
        badSlots(slot -> t.join(slot, 0, 0));
        badSlots(slot -> t.join(0, slot, 0));
        badSlots(slot -> t.join(0, 0, slot));
        fails(ARGUMENT, () -> t.join(0, 20, 24));
        joinWhenFull();
    }

    private static void joinWhenFull() {
        begin("promise 18", 0);
        longSequence(0, 600);
        longSequence(1, 400);
        is(1000, () -> t.join(2, 0, 1));
        is(399, () -> t.at(2, 999));
        is(0, () -> t.at(2, 600));
        fails(FULL, () -> t.join(3, 0, 0));
        is(1000, () -> t.count(MOVES));
        queueOf(4, QUEUE, 1);
        queueOf(5, HEAP, 1);
        for (int i = 0; i < 9; i++) {
            t.join(4, 4, 4);
            t.join(5, 5, 5);
        }
        is(512, () -> t.size(4));
        fails(FULL, () -> t.join(6, 4, 4));
        fails(FULL, () -> t.join(6, 5, 5));
        leaveMoves(512);
        t.make(7, QUEUE);
        queueOf(8, QUEUE, 1);
        fails(FULL, () -> t.join(6, 4, 8));
        is(512, () -> t.join(6, 7, 4));
        is(20000, () -> t.count(MOVES));
        is(0, () -> t.join(6, 7, 7));
        is(513, () -> {
            queueOf(9, HEAP, 2);
            return t.join(6, 9, 5);
        });
    }

    private static void joinOfKeys() {
        for (int kind : new int[] {MAP, TREE}) {
            begin("promise 18", 1);
            entries(0, kind, 1, 10, 2, 20, 258, 5);
            entries(1, kind, 2, 21, 3, 31);
            is(4, () -> t.join(2, 0, 1));
            is(5, () -> t.count(MOVES));
            is(10, () -> t.find(2, 1));
            is(21, () -> t.find(2, 2));
            is(31, () -> t.find(2, 3));
            is(5, () -> t.find(2, 258));
            is(4, () -> t.join(3, 1, 0));
            is(20, () -> t.find(3, 2));
            is(20, () -> t.find(0, 2));
            is(2, () -> t.size(1));
            t.make(4, kind);
            is(3, () -> t.join(5, 4, 0));
            is(3, () -> t.join(5, 0, 4));
            is(1, t.same(5, 0));
            t.put(5, 5, 1, 11);
            is(10, () -> t.find(0, 1));
        }
        begin("promise 18", 0);
        setOf(0, 1, 2, 1L << 32);
        setOf(1, 2, 0);
        is(4, () -> t.join(2, 0, 1));
        is(5, () -> t.count(MOVES));
        holds(2, 1, 2, 0, 1L << 32);
        holds(0, 1L << 32, 1, 2);
        longSet(3, 1000);
        fails(FULL, () -> t.join(4, 3, 2));
        setOf(5, 7, 999);
        is(1000, () -> t.join(4, 3, 5));
        is(1000, () -> t.join(4, 5, 3));
        is(5 + 2004, () -> t.count(MOVES));
        begin("promise 18", 1);
        setOf(0);
        setOf(1);
        for (int i = 0; i < 10; i++) {
            t.add(0, 0, i * 256 + 9);
            t.add(1, 1, (i + 6) * 256 + 9);
        }
        is(16, () -> t.join(2, 0, 1));
        t.add(1, 1, 16 * 256 + 9);
        fails(FULL, () -> t.join(2, 0, 1));
        fails(FULL, () -> t.join(2, 1, 0));
        joinOfAlike();
        begin("promise 18", 0);
        entries(3, TREE, 1, 1);
        t.make(4, TREE);
        for (int i = 0; i < 1000; i++) {
            t.put(4, 4, i * 2, i);
        }
        fails(FULL, () -> t.join(5, 4, 3));
        entries(3, TREE, 2, 7);
        is(1000, () -> t.join(5, 4, 3));
        is(7, () -> t.find(5, 2));
        is(1000, () -> t.join(5, 3, 4));
        is(1, () -> t.find(5, 2));
    }

    /** Keys of one HASH are counted for each HASH by itself. */
    private static void joinOfAlike() {
        begin("promise 18", 1);
        setOf(0);
        for (int i = 0; i < 15; i++) {
            t.add(0, 0, i * 256 + 1);
            t.add(0, 0, i * 256 + 2);
            t.add(0, 0, i * 256 + 9);
        }
        setOf(1, 15 * 256 + 1, 15 * 256 + 2, 15 * 256 + 9);
        is(48, () -> t.join(2, 0, 1));
        setOf(1, 15 * 256 + 1, 15 * 256 + 2, 15 * 256 + 9, 16 * 256 + 9);
        fails(FULL, () -> t.join(2, 0, 1));
        setOf(1, 15 * 256 + 1, 16 * 256 + 2, 15 * 256 + 2, 15 * 256 + 9);
        fails(FULL, () -> t.join(2, 0, 1));
    }

    /** The keys that both have are counted once. */
    private static void joinOfOverlapping() {
        begin("promise 18", 0);
        for (int kind : new int[] {MAP, TREE}) {
            t.make(0, kind);
            t.make(1, kind);
            for (int i = 0; i < 1000; i++) {
                if (i < 600) {
                    t.put(0, 0, i, 0);
                }
                if (i >= 200) {
                    t.put(1, 1, i, 1);
                }
            }
            is(1000, () -> t.join(2, 0, 1));
            is(0, () -> t.find(2, 199));
            is(1, () -> t.find(2, 200));
            is(1000, () -> t.join(2, 1, 0));
            is(0, () -> t.find(2, 599));
            is(1, () -> t.find(2, 600));
            is(1000, () -> t.join(3, 2, 2));
            t.put(1, 1, 1000, 1);
            fails(FULL, () -> t.join(2, 0, 1));
            fails(FULL, () -> t.join(2, 1, 0));
        }
    }

    private static void joinOfStreams() {
        begin("promise 18", 0);
        sequence(0, 1, 2);
        t.turn(0, 0);
        numbers(1);
        is(0, () -> t.join(2, 0, 1));
        is(0, () -> t.count(MOVES));
        begins(2, 1, 2);
        // The joined one's cell and the turned one's.
        is(2, () -> t.count(MOVES));
        is(0, () -> t.at(2, 2));
        is(4, () -> t.count(MOVES));
        is(0, () -> t.count(CALLS));
        is(1, () -> t.at(2, 3));
        is(5, () -> t.count(MOVES));
        is(1, () -> t.count(CALLS));
        t.make(3, STREAM);
        is(0, () -> t.join(4, 3, 1));
        is(1, () -> t.at(4, 1));
        is(5, () -> t.count(MOVES));
        t.join(5, 0, 3);
        runs(5, 1, 2);
        t.join(6, 3, 3);
        runs(6);
        is(0, () -> t.join(7, 1, 0));
        begins(7, 0, 1, 2, 3);
    }

    private static void meet() {
        begin("promise 19", 0);
        setOf(0, 1, 2, 3, 33, 1L << 32 | 3);
        setOf(1, 2, 33, 4, 1L << 32 | 3);
        is(3, () -> t.meet(2, 0, 1, false));
        holds(2, 33, 2, 3 | 1L << 32);
        is(5, () -> t.count(MOVES));
        is(2, () -> t.meet(2, 0, 1, true));
        holds(2, 1, 3);
        is(10, () -> t.count(MOVES));
        is(1, () -> t.meet(2, 1, 0, true));
        holds(2, 4);
        is(14, () -> t.count(MOVES));
        is(0, () -> t.meet(2, 0, 0, true));
        is(node(0, 0), () -> t.shape(2));
        is(5, () -> t.meet(0, 0, 0, false));
        t.make(3, SET);
        is(0, () -> t.meet(2, 3, 0, false));
        is(0, () -> t.meet(2, 3, 0, true));
        is(0, () -> t.meet(2, 0, 3, false));
        is(5, () -> t.meet(2, 0, 3, true));
        onlyKinds(slot -> t.meet(10, slot, SET, true), SET);
        onlyKinds(slot -> t.meet(10, SET, slot, true), SET);
        badSlots(slot -> t.meet(slot, SET, SET, true));
        badSlots(slot -> t.meet(SET, slot, SET, true));
        badSlots(slot -> t.meet(SET, SET, slot, true));
        longSet(4, 1000);
        setOf(5, 1, 999);
        is(2, () -> t.meet(6, 4, 5, false));
        is(998, () -> t.meet(6, 4, 5, true));
        is(1000, () -> t.meet(6, 4, 4, false));
        setOf(4, 1, 2, 3);
        setOf(5, 1);
        leaveMoves(2);
        fails(FULL, () -> t.meet(6, 4, 5, true));
        is(1, () -> t.meet(6, 5, 4, false));
    }

    private static void shape() {
        begin("promise 20", 0);
        t.make(0, MAP);
        is(17 * 31 * 31, () -> t.shape(0));
        entries(0, MAP, 0, 5);
        is(node(1, 0), () -> t.shape(0));
        setOf(1, 31);
        is(node(1 << 31, 0), () -> t.shape(1));
        setOf(1, 0, 32);
        is(node(0, 1, node(3, 0)), () -> t.shape(1));
        setOf(1, 0, 32, 5, 3 | 7 << 5 | 9 << 10, 3 | 7 << 5 | 8 << 10);
        is(node(1 << 5, 1 | 8, node(3, 0), node(0, 1 << 7, node(1 << 8 | 1 << 9, 0))), () -> t.shape(1));
        setOf(1, 1 << 30, 3 << 30, 0);
        int deep = node(1 | 2 | 8, 0);
        for (int level = 5; level >= 0; level--) {
            deep = node(0, 1, deep);
        }
        int level6 = deep;
        is(level6, () -> t.shape(1));
        setOf(1, -1, -1L >>> 1, -1L >>> 32);
        int bottom = node(0, 8, 7 + 3);
        for (int level = 5; level >= 0; level--) {
            bottom = node(0, 1 << 31, bottom);
        }
        int level7 = bottom;
        is(level7, () -> t.shape(1));
        begin("promise 20", 1);
        setOf(1, 0x1FF, 0xFF);
        int chain = 9;
        for (int level = 6; level >= 2; level--) {
            chain = node(0, 1, chain);
        }
        int of255 = node(0, 1 << 31, node(0, 1 << 7, chain));
        is(of255, () -> t.shape(1));
        longSet(2, 1000);
        int full = t.shape(2);
        t.make(3, SET);
        for (int i = 999; i >= 0; i--) {
            t.add(3, 3, i);
        }
        is(full, () -> t.shape(3));
        onlyKinds(slot -> t.shape(slot), MAP, SET);
        badSlots(slot -> t.shape(slot));
    }

    private static void same() {
        begin("promise 21", 0);
        sequence(0, 1, 2, 3);
        sequence(1, 2, 3);
        t.push(1, 1, 1);
        is(1, t.same(0, 1));
        is(6, () -> t.count(MOVES));
        sequence(1, 1, 2);
        is(0, t.same(0, 1));
        sequence(1, 1, 3, 2);
        is(0, t.same(0, 1));
        is(17, () -> t.count(MOVES));
        sequence(1, 9, 2, 3);
        is(0, t.same(0, 1));
        sequence(1, 1, 2, 9);
        is(0, t.same(0, 1));
        for (int kind : new int[] {MAP, TREE}) {
            entries(2, kind, 1, 10, 2, 20, 1L << 32 | 1, 5);
            entries(3, kind, 1L << 32 | 1, 5, 2, 20, 1, 10);
            is(1, t.same(2, 3));
            t.put(3, 3, 1L << 32 | 1, 6);
            is(0, t.same(2, 3));
            t.put(3, 3, 1L << 32 | 1, 5);
            t.put(3, 3, 4, 5);
            is(0, t.same(2, 3));
            t.out(3, 3, 1);
            is(0, t.same(2, 3));
        }
        setOf(4, 1, 2);
        setOf(5, 2, 1, 3);
        is(0, t.same(4, 5));
        t.out(5, 5, 3);
        is(1, t.same(4, 5));
        queueOf(6, HEAP, 3, 1, 2, 1);
        queueOf(7, HEAP, 1, 2, 1, 3);
        is(1, t.same(6, 7));
        queueOf(7, HEAP, 1, 2, 2, 3);
        is(0, t.same(6, 7));
        queueOf(7, HEAP, 1, 2, 3);
        is(0, t.same(6, 7));
        queueOf(8, QUEUE, 3, 1, 2);
        queueOf(9, QUEUE, 0, 3, 1, 2);
        is(0, t.same(8, 9));
        t.pop(9, 9);
        is(1, t.same(8, 9));
        queueOf(9, QUEUE, 1, 2, 3);
        is(0, t.same(8, 9));
        for (int one = 0; one <= STREAM; one++) {
            for (int other = 0; other <= STREAM; other++) {
                oneOfEach();
                int a = one;
                int b = other;
                if (one == other && one != STREAM) {
                    is(1, t.same(a, b));
                } else {
                    fails(STATE, () -> t.same(a, b));
                }
            }
            int a = one;
            fails(STATE, () -> t.same(a, 20));
            fails(STATE, () -> t.same(20, a));
        }
        badSlots(slot -> t.same(slot, 0));
        badSlots(slot -> t.same(0, slot));
        fails(ARGUMENT, () -> t.same(20, 24));
        sequence(0, 1, 2, 3);
        leaveMoves(5);
        fails(FULL, () -> t.same(0, 0));
        sequence(1, 1, 2);
        is(0, t.same(0, 1));
    }

    /** How one was made leaves no trace. */
    private static void sameInOtherWays() {
        begin("promise 21", 0);
        sequence(0, 3, 4, 5);
        t.iterate(1, 3, 0, 1);
        t.list(1, 1, 3);
        is(1, t.same(0, 1));
        t.map(1, 0, 0, 0);
        is(1, t.same(0, 1));
        t.filter(1, 0, 4, 0);
        is(1, t.same(1, 0));
        t.open(0, 0);
        t.freeze(0, 1);
        is(1, t.same(0, 1));
        setOf(1, 4, 5, 3);
        t.turn(1, 1);
        is(1, t.same(0, 1));
        t.set(1, 1, 0, 3);
        is(1, t.same(0, 1));
        // Numbers and sizes are alike, keys are not.
        setOf(2, 5, 33);
        setOf(3, 5, 65);
        is(0, t.same(2, 3));
        // As many in all, but three and two here, two and three there.
        setOf(2, 1, 1L << 32 | 1, 2L << 32 | 1, 2, 1L << 32 | 2);
        setOf(3, 1, 1L << 32 | 1, 2L << 32 | 2, 2, 1L << 32 | 2);
        is(0, t.same(2, 3));
        t.add(2, 2, 2L << 32 | 2);
        t.add(3, 3, 2L << 32 | 1);
        is(1, t.same(2, 3));
        entries(2, MAP, 5, 1);
        t.make(3, MAP);
        is(0, t.same(2, 3));
        is(0, t.same(3, 2));
        sameHeaps();
    }

    private static void sameHeaps() {
        begin("promise 21", 0);
        for (int total : new int[] {1, 2, 3, 7, 8, 200, 1000}) {
            t.make(0, HEAP);
            t.make(1, HEAP);
            for (int i = 0; i < total; i++) {
                t.add(0, 0, i * 7L % 501 - 250);
                t.add(1, 1, (total - 1 - i) * 7L % 501 - 250);
            }
            is(1, t.same(0, 1));
            is(1, t.same(1, 0));
            long gone = t.pop(1, 1);
            is(0, t.same(0, 1));
            t.add(2, 1, gone + 1);
            is(0, t.same(0, 2));
            t.add(2, 1, 1000);
            is(0, t.same(2, 0));
            t.add(2, 1, gone);
            is(1, t.same(2, 0));
            begin("promise 21", 0);
        }
    }

    private static void map() {
        begin("promise 22", 0);
        long most = Long.MAX_VALUE;
        long least = Long.MIN_VALUE;
        long[] from = {7, -7, 1, most, least};
        long[][] due = {
            {4, -10, -2, most - 3, most - 2},
            {-21, 21, -3, -most * 3, least},
            {5, -7, 1, most - 2, least},
            {-6, 4, -4, least + 2, most - 2},
            {-2, 2, 0, -(most / 3), 3074457345618258602L},
            {0, 0, -3, 0, 0},
            {1, -1, 1, 1, -2},
        };
        sequence(0, from);
        for (int f = 0; f <= 6; f++) {
            t.map(1, 0, f, -3);
            holds(1, due[f]);
        }
        holds(0, from);
        is(35, () -> t.count(MOVES));
        is(0, () -> t.count(CALLS));
        t.map(1, 0, 4, -1);
        holds(1, -7, 7, -1, -most, least);
        t.map(1, 0, 6, -1);
        holds(1, 0, 0, 0, 0, 0);
        fails(DIVISION, () -> t.map(1, 0, 4, 0));
        fails(DIVISION, () -> t.map(1, 0, 6, 0));
        t.map(1, 0, 5, 0);
        holds(1, 0, 0, 0, 0, 0);
        fails(DIVISION, () -> t.map(2, 1, 5, 8));
        t.make(2, SEQUENCE);
        t.map(2, 2, 4, 0);
        holds(2);
        for (int bad : new int[] {-1, 7, Integer.MIN_VALUE, Integer.MAX_VALUE}) {
            fails(ARGUMENT, () -> t.map(1, 0, bad, 1));
            fails(ARGUMENT, () -> t.map(1, 20, bad, 1));
        }
        onlyKinds(slot -> t.map(10, slot, 0, 1), SEQUENCE, STREAM);
        badSlots(slot -> t.map(slot, 0, 0, 1));
        badSlots(slot -> t.map(0, slot, 0, 1));
        sequence(3, 1, 2, 0);
        leaveMoves(2);
        fails(FULL, () -> t.map(4, 3, 0, 1));
        // FULL comes last, behind a division by 0.
        fails(DIVISION, () -> t.map(4, 3, 5, 1));
        t.drop(3, 3, 1, false);
        t.map(3, 3, 0, 1);
        holds(3, 2, 3);
    }

    private static void mapOfStream() {
        begin("promise 22", 0);
        numbers(0);
        t.map(1, 0, 1, 10);
        is(1, () -> t.count(CALLS));
        is(0, () -> t.count(MOVES));
        is(0, () -> t.front(1));
        is(30, () -> t.at(1, 3));
        is(7, () -> t.count(CALLS));
        is(6, () -> t.count(MOVES));
        is(30, () -> t.at(1, 3));
        is(3, () -> t.at(0, 3));
        is(7, () -> t.count(CALLS));
        t.make(2, STREAM);
        t.map(3, 2, 4, 0);
        runs(3);
        is(7, () -> t.count(CALLS));
        failsOnly(DIVISION, () -> t.map(4, 0, 5, 12));
        is(8, () -> t.count(CALLS));
        is(-1, () -> t.kind(4));
        sequence(5, 1, 0, 2);
        t.turn(5, 5);
        t.map(6, 5, 5, 12);
        is(12, () -> t.front(6));
        is(9, () -> t.count(CALLS));
        is(6, () -> t.count(MOVES));
        failsOnly(DIVISION, () -> t.at(6, 1));
        is(10, () -> t.count(CALLS));
        is(8, () -> t.count(MOVES));
        // It is tried anew: the cell takes its move again, the one below it is kept.
        failsOnly(DIVISION, () -> t.pop(7, 6));
        is(11, () -> t.count(CALLS));
        is(9, () -> t.count(MOVES));
    }

    private static void filter() {
        begin("promise 23", 0);
        long[] elements = {-4, -3, 0, 3, 4, 6, 4};
        long[][] due = {{-4, -3, 0, 3}, {-4, -3, 4, 6, 4}, {4, 4}, {-4, 0, 4, 4}, {-4, -3, 0, 3, 4, 6, 4}};
        sequence(0, elements);
        for (int test = 0; test <= 4; test++) {
            t.filter(1, 0, test, 4);
            holds(1, due[test]);
        }
        holds(0, elements);
        is(35, () -> t.count(MOVES));
        is(0, () -> t.count(CALLS));
        fails(DIVISION, () -> t.filter(1, 0, 3, 0));
        t.filter(1, 0, 3, -2);
        holds(1, -4, 0, 4, 6, 4);
        t.filter(1, 0, 2, 99);
        holds(1);
        t.filter(1, 1, 3, 0);
        setOf(2, 1, 2, 3, 33, 65, 1L << 32 | 2);
        int moves = t.count(MOVES);
        t.filter(3, 2, 0, 3);
        holds(3, 1, 2);
        is(moves + 6, () -> t.count(MOVES));
        is(6, () -> t.size(2));
        t.filter(3, 2, 1, 1);
        holds(3, 3, 1, 33, 65);
        t.filter(3, 2, 4, 0);
        is(1, t.same(3, 2));
        t.filter(3, 2, 2, 5);
        is(node(0, 0), () -> t.shape(3));
        is(SET, () -> t.kind(3));
        fails(DIVISION, () -> t.filter(3, 2, 3, 0));
        t.filter(3, 3, 3, 0);
        for (int bad : new int[] {-1, 5, Integer.MIN_VALUE, Integer.MAX_VALUE}) {
            fails(ARGUMENT, () -> t.filter(1, 0, bad, 1));
            fails(ARGUMENT, () -> t.filter(1, 20, bad, 1));
        }
        onlyKinds(slot -> t.filter(10, slot, 0, 1), SEQUENCE, SET, STREAM);
        badSlots(slot -> t.filter(slot, 0, 0, 1));
        badSlots(slot -> t.filter(0, slot, 0, 1));
        longSet(2, 1000);
        t.filter(3, 2, 0, 500);
        is(500, () -> t.size(3));
        longSequence(2, 1000);
        t.filter(3, 2, 0, 500);
        is(499, () -> t.at(3, 499));
        setOf(2, 1, 2, 3);
        sequence(3, 1, 2, 3);
        leaveMoves(2);
        for (int slot = 2; slot <= 3; slot++) {
            int from = slot;
            fails(FULL, () -> t.filter(5, from, 0, 1));
            fails(DIVISION, () -> t.filter(5, from, 3, 0));
        }
    }

    private static void filterOfStream() {
        begin("promise 23", 0);
        numbers(0);
        t.filter(1, 0, 3, 5);
        is(1, () -> t.count(CALLS));
        is(0, () -> t.count(MOVES));
        is(5, () -> t.at(1, 1));
        // 5 cells of numbers and one of the filter; 5 functions and 5 tests.
        is(6, () -> t.count(MOVES));
        is(11, () -> t.count(CALLS));
        is(10, () -> t.at(1, 2));
        is(12, () -> t.count(MOVES));
        begin("promise 23", 0);
        t.iterate(0, 1, 0, 1);
        t.filter(1, 0, 2, 1000);
        is(1000, () -> t.front(1));
        is(999, () -> t.count(MOVES));
        is(1999, () -> t.count(CALLS));
        begin("promise 23", 0);
        t.iterate(0, 1, 0, 1);
        t.filter(1, 0, 2, 1001);
        runs(1);
        // 1000 are looked at, and the next one is not worked out.
        is(999, () -> t.count(MOVES));
        is(1999, () -> t.count(CALLS));
        t.filter(2, 0, 0, 2);
        is(1, () -> t.front(2));
        is(2000, () -> t.count(CALLS));
        failsOnly(NONE, () -> t.at(2, 1));
        // The filter's cell, and the one behind 1000; 1000 tests and a function.
        is(1001, () -> t.count(MOVES));
        is(3001, () -> t.count(CALLS));
        failsOnly(NONE, () -> t.at(2, 1));
        is(3001, () -> t.count(CALLS));
        begin("promise 23", 0);
        numbers(0);
        failsOnly(DIVISION, () -> t.filter(1, 0, 3, 0));
        is(1, () -> t.count(CALLS));
        t.make(2, STREAM);
        t.filter(1, 2, 3, 0);
        runs(1);
        is(1, () -> t.count(CALLS));
        t.filter(1, 0, 2, 0);
        leaveMoves(3);
        failsOnly(FULL, () -> t.pop(3, 1));
        // The filter's cell and two numbers; then the third number finds no move.
        is(20000, () -> t.count(MOVES));
        is(2, () -> t.at(0, 2));
        fails(FULL, () -> t.at(0, 3));
    }

    private static void iterate() {
        begin("promise 24", 0);
        t.iterate(0, 3, 1, -2);
        is(0, () -> t.count(CALLS));
        is(0, () -> t.count(MOVES));
        begins(0, 3, -6, 12, -24);
        is(3, () -> t.count(CALLS));
        is(3, () -> t.count(MOVES));
        t.iterate(1, 100, 5, 200);
        begins(1, 100, 2, 100, 2);
        t.iterate(1, Long.MAX_VALUE, 0, 1);
        begins(1, Long.MAX_VALUE, Long.MIN_VALUE, Long.MIN_VALUE + 1);
        t.iterate(2, 1, 4, 0);
        is(1, () -> t.front(2));
        failsOnly(DIVISION, () -> t.at(2, 1));
        t.iterate(2, 100, 4, 10);
        begins(2, 100, 10, 1, 0, 0);
        t.iterate(2, 6, 2, 3);
        begins(2, 6, 2, 2);
        t.iterate(2, 6, 3, 3);
        begins(2, 6, 5, 6);
        t.iterate(2, -7, 6, 4);
        begins(2, -7, -3, -3);
        // 100 / 200 is 0, by which 100 can't be divided: that cell fails again and again.
        t.iterate(3, 200, 5, 100);
        is(0, () -> t.at(3, 1));
        failsOnly(DIVISION, () -> t.at(3, 2));
        int calls = t.count(CALLS);
        int moves = t.count(MOVES);
        failsOnly(DIVISION, () -> t.at(3, 3));
        is(calls + 1, () -> t.count(CALLS));
        is(moves + 1, () -> t.count(MOVES));
        badSlots(slot -> t.iterate(slot, 0, 0, 0));
        fails(ARGUMENT, () -> t.iterate(0, 0, -1, 0));
        fails(ARGUMENT, () -> t.iterate(0, 0, 7, 0));
    }

    private static void take() {
        begin("promise 25", 0);
        numbers(0);
        t.take(1, 0, 3);
        is(0, () -> t.count(MOVES));
        begins(1, 0, 1, 2);
        // Two cells of what is taken, two of the numbers.
        is(4, () -> t.count(MOVES));
        is(2, () -> t.count(CALLS));
        fails(NONE, () -> t.at(1, 3));
        is(4, () -> t.count(MOVES));
        t.take(2, 0, 0);
        runs(2);
        t.take(2, 0, 1);
        fails(NONE, () -> t.at(2, 1));
        is(0, () -> t.front(2));
        sequence(3, 7, 8);
        t.turn(3, 3);
        t.take(4, 3, Integer.MAX_VALUE);
        runs(4, 7, 8);
        t.make(5, STREAM);
        t.take(6, 5, 4);
        runs(6);
        is(STREAM, () -> t.kind(6));
        fails(ARGUMENT, () -> t.take(6, 0, -1));
        fails(ARGUMENT, () -> t.take(6, 20, -1));
        onlyKinds(slot -> t.take(10, slot, 1), STREAM);
        badSlots(slot -> t.take(slot, STREAM, 1));
        badSlots(slot -> t.take(STREAM, slot, 1));
    }

    private static void list() {
        begin("promise 26", 0);
        numbers(0);
        is(4, () -> t.list(1, 0, 4));
        holds(1, 0, 1, 2, 3);
        // Four of the list and three cells: the one behind the last is left.
        is(7, () -> t.count(MOVES));
        is(3, () -> t.count(CALLS));
        is(0, () -> t.list(1, 0, 0));
        holds(1);
        is(7, () -> t.count(MOVES));
        t.take(2, 0, 2);
        is(2, () -> t.list(3, 2, 10));
        holds(3, 0, 1);
        is(7 + 10 + 1, () -> t.count(MOVES));
        t.make(4, STREAM);
        is(0, () -> t.list(3, 4, 6));
        is(24, () -> t.count(MOVES));
        is(1000, () -> t.list(0, 0, 1000));
        is(999, () -> t.at(0, 999));
        fails(ARGUMENT, () -> t.list(3, 4, -1));
        fails(ARGUMENT, () -> t.list(3, 4, 1001));
        fails(ARGUMENT, () -> t.list(3, 20, 1001));
        onlyKinds(slot -> t.list(10, slot, 1), STREAM);
        badSlots(slot -> t.list(slot, STREAM, 1));
        badSlots(slot -> t.list(STREAM, slot, 1));
        sequence(0, 1, 0);
        t.turn(0, 0);
        t.map(0, 0, 5, 9);
        failsOnly(DIVISION, () -> t.list(1, 0, 2));
        is(1, () -> t.list(1, 0, 1));
        holds(1, 9);
        numbers(2);
        leaveMoves(10);
        failsOnly(FULL, () -> t.list(3, 2, 8));
        // The cells stay worked out and counted; those of the list are not.
        is(19997, () -> t.count(MOVES));
        is(3, () -> t.list(3, 2, 3));
        is(20000, () -> t.count(MOVES));
        fails(FULL, () -> t.list(3, 2, 1));
        is(0, () -> t.list(3, 2, 0));
    }

    private static void turn() {
        begin("promise 27", 0);
        sequence(0, 5, 6, 7);
        t.turn(1, 0);
        is(STREAM, () -> t.kind(1));
        is(0, () -> t.count(MOVES));
        begins(1, 5, 6, 7);
        is(2, () -> t.count(MOVES));
        is(0, () -> t.count(CALLS));
        failsOnly(NONE, () -> t.at(1, 3));
        is(3, () -> t.count(MOVES));
        fails(NONE, () -> t.at(1, 3));
        holds(0, 5, 6, 7);
        t.make(2, SEQUENCE);
        t.turn(2, 2);
        runs(2);
        entries(3, MAP, 64, 1, 2, 2, 0, 3, 32, 4);
        t.turn(4, 3);
        is(SEQUENCE, () -> t.kind(4));
        holds(4, 2, 3, 4, 1);
        is(7, () -> t.count(MOVES));
        entries(3, TREE, 64, 1, 2, 2, 0, 3, -32, 4);
        t.turn(4, 3);
        holds(4, 4, 3, 2, 1);
        is(11, () -> t.count(MOVES));
        setOf(3, 64, 2, 0, 32);
        t.turn(3, 3);
        holds(3, 2, 0, 32, 64);
        is(15, () -> t.count(MOVES));
        onlyKinds(slot -> t.turn(10, slot), SEQUENCE, MAP, TREE, SET);
        badSlots(slot -> t.turn(slot, 0));
        badSlots(slot -> t.turn(0, slot));
        setOf(3, 1, 2, 3);
        entries(4, MAP, 1, 1, 2, 2, 3, 3);
        entries(5, TREE, 1, 1, 2, 2, 3, 3);
        sequence(6, 1, 2, 3);
        leaveMoves(2);
        fails(FULL, () -> t.turn(7, 3));
        fails(FULL, () -> t.turn(7, 4));
        fails(FULL, () -> t.turn(7, 5));
        fails(FULL, () -> t.turn(3, 3));
        t.turn(7, 6);
        is(3, () -> t.at(7, 2));
        fails(FULL, () -> t.at(7, 3));
    }

    private static void turnOfFull() {
        begin("promise 27", 0);
        longSet(0, 1000);
        t.turn(1, 0);
        t.make(2, MAP);
        t.make(3, TREE);
        for (int i = 0; i < 1000; i++) {
            t.put(2, 2, i, -i);
            t.put(3, 3, i, -i);
        }
        t.turn(4, 2);
        t.turn(5, 3);
        for (int i = 0; i < 1000; i++) {
            int place = i;
            is(t.at(0, place), () -> t.at(1, place));
            is(-t.at(2, place), () -> t.at(4, place));
            is(-place, () -> t.at(5, place));
        }
        is(3000, () -> t.count(MOVES));
    }

    private static void open() {
        begin("promise 28", 0);
        sequence(0, 1, 2);
        t.open(0, 0);
        is(1, () -> t.count(OPEN));
        is(2, () -> t.look(0, 1));
        t.build(0, 1, 0, 9);
        t.build(0, 0, 0, 3);
        holds(0, 1, 2);
        fails(STATE, () -> t.open(0, 0));
        entries(1, MAP, 1, 10, 33, 20);
        t.open(1, 1);
        t.build(1, 0, 1, 11);
        t.build(1, 2, 33, 0);
        t.build(1, 0, 65, 30);
        is(10, () -> t.find(1, 1));
        is(20, () -> t.find(1, 33));
        is(2, () -> t.size(1));
        setOf(2, 5);
        t.open(2, 2);
        t.build(2, 0, 6, 0);
        holds(2, 5);
        t.open(3, 2);
        is(4, () -> t.count(OPEN));
        is(1, () -> t.look(3, 5));
        fails(NONE, () -> t.look(3, 6));
        is(0, () -> t.count(MOVES));
        begin("promise 28", 0);
        onlyKinds(slot -> t.open(0, slot), SEQUENCE, MAP, SET);
        for (int bad : BAD_BUILDERS) {
            fails(ARGUMENT, () -> t.open(bad, 0));
            fails(ARGUMENT, () -> t.open(bad, 20));
        }
        badSlots(slot -> t.open(0, slot));
        t.open(0, 0);
        fails(ARGUMENT, () -> t.open(0, 24));
        fails(STATE, () -> t.open(0, 20));
    }

    private static void build() {
        begin("promise 29", 0);
        t.make(0, SEQUENCE);
        t.open(0, 0);
        is(1, () -> t.build(0, 0, 99, 5));
        is(2, () -> t.build(0, 0, 99, 6));
        is(2, () -> t.build(0, 1, 0, 50));
        is(50, () -> t.look(0, 0));
        fails(NONE, () -> t.build(0, 1, 2, 0));
        fails(NONE, () -> t.build(0, 1, -1, 0));
        fails(NONE, () -> t.build(0, 1, 1L << 32, 0));
        fails(NONE, () -> t.build(0, 1, Long.MIN_VALUE, 0));
        is(50, () -> t.look(0, 0));
        is(1, () -> t.build(0, 2, 7, 7));
        is(0, () -> t.build(0, 2, 7, 7));
        fails(NONE, () -> t.build(0, 2, 7, 7));
        for (int i = 1; i <= 1000; i++) {
            int size = i;
            is(size, () -> t.build(0, 0, 0, size));
        }
        fails(FULL, () -> t.build(0, 0, 0, 0));
        is(1000, () -> t.build(0, 1, 999, 0));
        is(999, () -> t.build(0, 2, 0, 0));
        t.make(1, MAP);
        t.open(1, 1);
        is(1, () -> t.build(1, 0, 5, 50));
        is(1, () -> t.build(1, 0, 5, 51));
        is(2, () -> t.build(1, 0, 1L << 32 | 5, 52));
        is(51, () -> t.look(1, 5));
        fails(UNSUPPORTED, () -> t.build(1, 1, 5, 1));
        fails(UNSUPPORTED, () -> t.build(1, 1, 6, 1));
        is(1, () -> t.build(1, 2, 5, 0));
        is(1, () -> t.build(1, 2, 5, 0));
        is(52, () -> t.look(1, 1L << 32 | 5));
        t.make(2, SET);
        t.open(2, 2);
        is(1, () -> t.build(2, 0, 5, 50));
        is(1, () -> t.build(2, 0, 5, 7));
        is(1, () -> t.look(2, 5));
        fails(UNSUPPORTED, () -> t.build(2, 1, 5, 1));
        is(0, () -> t.build(2, 2, 5, 0));
        is(0, () -> t.build(2, 2, 5, 0));
        for (int i = 0; i < 16; i++) {
            t.build(2, 0, (long) i << 32, 0);
        }
        fails(FULL, () -> t.build(2, 0, 16L << 32, 0));
        is(16, () -> t.build(2, 0, 15L << 32, 0));
        for (int i = 17; i <= 1000; i++) {
            t.build(2, 0, i, 0);
        }
        fails(FULL, () -> t.build(2, 0, 1001, 0));
        fails(STATE, () -> t.build(3, 0, 0, 0));
        fails(ARGUMENT, () -> t.build(3, 3, 0, 0));
        fails(ARGUMENT, () -> t.build(0, 3, 0, 0));
        fails(ARGUMENT, () -> t.build(0, -1, 0, 0));
        for (int bad : BAD_BUILDERS) {
            fails(ARGUMENT, () -> t.build(bad, 0, 0, 0));
        }
    }

    private static void look() {
        begin("promise 30", 1);
        sequence(0, 5, 6);
        t.open(0, 0);
        is(6, () -> t.look(0, 1));
        fails(NONE, () -> t.look(0, 2));
        fails(NONE, () -> t.look(0, -1));
        fails(NONE, () -> t.look(0, 1L << 32));
        fails(NONE, () -> t.look(0, Long.MIN_VALUE));
        t.build(0, 2, 0, 0);
        fails(NONE, () -> t.look(0, 1));
        entries(1, MAP, -1, 10, 255, 20);
        t.open(1, 1);
        is(10, () -> t.look(1, -1));
        is(20, () -> t.look(1, 255));
        fails(NONE, () -> t.look(1, 511));
        setOf(2, Long.MIN_VALUE);
        t.open(2, 2);
        is(1, () -> t.look(2, Long.MIN_VALUE));
        fails(NONE, () -> t.look(2, 0));
        fails(STATE, () -> t.look(3, 0));
        for (int bad : BAD_BUILDERS) {
            fails(ARGUMENT, () -> t.look(bad, 0));
        }
    }

    private static void freeze() {
        begin("promise 31", 0);
        sequence(0, 5, 6);
        t.open(0, 0);
        t.build(0, 0, 0, 7);
        is(3, () -> t.freeze(0, 1));
        holds(1, 5, 6, 7);
        holds(0, 5, 6);
        is(0, () -> t.count(OPEN));
        fails(STATE, () -> t.freeze(0, 1));
        fails(STATE, () -> t.look(0, 0));
        fails(STATE, () -> t.build(0, 0, 0, 0));
        setOf(2, 1, 33);
        t.open(1, 2);
        t.build(1, 0, 65, 0);
        is(3, () -> t.freeze(1, 3));
        // What was frozen stays as it is when the builder is used again.
        t.open(1, 3);
        t.build(1, 2, 1, 0);
        t.build(1, 0, 2, 0);
        is(3, () -> t.size(3));
        holds(3, 1, 33, 65);
        is(3, () -> t.freeze(1, 4));
        holds(4, 2, 33, 65);
        holds(2, 1, 33);
        entries(5, MAP, 1, 10);
        t.open(2, 5);
        t.build(2, 0, 1, 11);
        is(1, () -> t.freeze(2, 5));
        is(11, () -> t.find(5, 1));
        t.make(6, SEQUENCE);
        t.open(3, 6);
        is(0, () -> t.freeze(3, 7));
        is(SEQUENCE, () -> t.kind(7));
        t.make(6, MAP);
        t.open(3, 6);
        is(0, () -> t.freeze(3, 7));
        is(MAP, () -> t.kind(7));
        t.open(3, 6);
        badSlots(slot -> t.freeze(3, slot));
        for (int bad : BAD_BUILDERS) {
            fails(ARGUMENT, () -> t.freeze(bad, 0));
        }
        fails(ARGUMENT, () -> t.freeze(0, 24));
        is(0, () -> t.count(MOVES));
    }

    private static void count() {
        begin("promise 32", 0);
        for (int what = 0; what <= 3; what++) {
            int here = what;
            is(0, () -> t.count(here));
        }
        for (int bad : new int[] {-1, 4, Integer.MIN_VALUE, Integer.MAX_VALUE}) {
            fails(ARGUMENT, () -> t.count(bad));
        }
        numbers(0);
        t.list(1, 0, 11);
        is(10, () -> t.count(CALLS));
        is(21, () -> t.count(MOVES));
        t.map(2, 1, 0, 5);
        is(10, () -> t.count(CALLS));
        is(32, () -> t.count(MOVES));
        t.open(0, 1);
        t.open(3, 1);
        is(2, () -> t.count(OPEN));
        t.freeze(0, 2);
        is(1, () -> t.count(OPEN));
        is(0, () -> t.count(UNSOUND));
    }

    // ---------------------------------------------------------------- terms

    /** What was worked out is shared by all that hold it, and worked out once. */
    private static void cells() {
        begin("cells", 0);
        numbers(0);
        t.map(1, 0, 0, 100);
        t.map(2, 0, 0, 200);
        is(105, () -> t.at(1, 5));
        int moves = t.count(MOVES);
        is(10, () -> t.count(MOVES));
        is(205, () -> t.at(2, 5));
        is(moves + 5, () -> t.count(MOVES));
        t.copy(3, 1);
        t.make(1, STREAM);
        is(104, () -> t.at(3, 4));
        is(moves + 5, () -> t.count(MOVES));
        begin("cells", 0);
        // 2, 1, 0: the cells up to where it throws stay worked out, also below a filter.
        sequence(0, 2, 1, 0, 3);
        t.turn(0, 0);
        t.map(1, 0, 5, 12);
        t.filter(2, 1, 2, 6);
        is(6, () -> t.front(2));
        is(2, () -> t.count(CALLS));
        failsOnly(DIVISION, () -> t.at(2, 1));
        // Calls: 12 / 1 and its test, then 12 / 0. Moves: the filter's, two of the map, two of the turned.
        is(5, () -> t.count(CALLS));
        is(5, () -> t.count(MOVES));
        failsOnly(DIVISION, () -> t.at(2, 1));
        // The filter's cell and the map's that failed are tried anew, and the test before it.
        is(7, () -> t.count(CALLS));
        is(7, () -> t.count(MOVES));
    }

    private static void moves() {
        begin("moves", 0);
        leaveMoves(3);
        numbers(0);
        is(2, () -> t.at(0, 2));
        is(3, () -> t.at(0, 3));
        fails(FULL, () -> t.at(0, 4));
        is(3, () -> t.count(CALLS));
        is(3, () -> t.at(0, 3));
        t.iterate(1, 1, 4, 0);
        // Both are met: the move is met first.
        fails(FULL, () -> t.at(1, 1));
        t.map(2, 0, 0, 1);
        is(4, () -> t.count(CALLS));
        fails(FULL, () -> t.pop(2, 2));
        sequence(3, 1);
        fails(FULL, () -> t.same(3, 3));
        t.make(4, SEQUENCE);
        is(1, t.same(4, 4));
    }

    private static void depth() {
        begin("depth", 0);
        numbers(0);
        sequence(1, 4);
        t.turn(1, 1);
        for (int depth = 1; depth <= 100; depth++) {
            int way = depth % 4;
            if (way == 0) {
                t.map(0, 0, 0, 1);
            } else if (way == 1) {
                t.filter(0, 0, 4, 0);
            } else if (way == 2) {
                t.take(0, 0, 1000);
            } else {
                t.join(0, 0, 1);
            }
            t.push(2, 0, 5);
        }
        is(25, () -> t.front(0));
        is(27, () -> t.at(0, 2));
        for (int slot : new int[] {0, 2}) {
            fails(FULL, () -> t.take(3, slot, 5));
            fails(FULL, () -> t.take(3, slot, 0));
            fails(FULL, () -> t.join(3, slot, 1));
            fails(FULL, () -> t.join(3, 1, slot));
            failsOnly(FULL, () -> t.map(3, slot, 0, 1));
            failsOnly(FULL, () -> t.filter(3, slot, 4, 1));
            failsOnly(DIVISION, () -> t.map(3, slot, 4, 0));
            failsOnly(DIVISION, () -> t.filter(3, slot, 3, 0));
        }
        is(25, () -> t.pop(4, 0));
        fails(FULL, () -> t.take(3, 4, 5));
        t.copy(4, 0);
        fails(FULL, () -> t.take(3, 4, 5));
        t.list(5, 0, 3);
        t.turn(5, 5);
        t.take(5, 5, 3);
        runs(5, 25, 26, 27);
        // What iterate, turn and make give has no depth.
        numbers(7);
        sequence(8, 1, 2);
        t.turn(8, 8);
        for (int depth = 1; depth <= 100; depth++) {
            t.map(7, 7, 0, 1);
            t.filter(8, 8, 4, 1);
        }
        is(100, () -> t.front(7));
        is(1, () -> t.front(8));
        // An empty one keeps its depth, and gives it on.
        t.make(6, STREAM);
        for (int depth = 1; depth <= 100; depth++) {
            t.map(6, 6, 0, 1);
        }
        fails(FULL, () -> t.map(7, 6, 0, 1));
        fails(FULL, () -> t.join(7, 6, 1));
        runs(6);
    }

    /** The example that README.md gives. */
    private static void readme() {
        begin("README.md, Use", 0);
        t.make(0, 0);
        is(1, () -> t.add(1, 0, 42));
        t.iterate(2, 1, 1, 2);
        is(10, () -> t.list(3, 2, 10));
        t.open(0, 3);
        is(11, () -> t.build(0, 0, 0, 7));
        is(11, () -> t.freeze(0, 4));
        holds(0);
        holds(1, 42);
        begins(2, 1, 2, 4, 8);
        holds(3, 1, 2, 4, 8, 16, 32, 64, 128, 256, 512);
        holds(4, 1, 2, 4, 8, 16, 32, 64, 128, 256, 512, 7);
    }
}
